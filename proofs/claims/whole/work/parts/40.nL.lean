set_option maxRecDepth 20000 in
theorem ggL_setRate_X5_setRate : GoodIn wsL_setRate wsX5_setRate := goodIn_ca (goodIn_r _ [6, 7, 8, 9, 10, 11, 12, 13, 5, 14, 15, 16, 17, 18, 19, 20, 21, 22, 23, 24, 25, 26, 27, 28, 29, 30, 31, 32, 33, 34, 35, 36, 37, 38] (by decide +kernel) (by decide +kernel)) (goodIn_sub (fun _ h => List.mem_cons_of_mem _ (List.mem_append_right _ h)) (by decide +kernel))
set_option maxRecDepth 20000 in
theorem gL_setRate_X5_setRate : GoodIn wsL_setRate (wsV RL 7 RX5 yX5_setRate wsX5_setRate) := goodIn_app (goodIn_of _ (by decide +kernel)) ggL_setRate_X5_setRate
theorem dL_setRate_0 : decode cL_setRate 0 = .ok (.aload_n 3, 1) := by decide +kernel
theorem dL_setRate_1 : decode cL_setRate 1 = .ok (.iconst 0, 1) := by decide +kernel
theorem dL_setRate_2 : decode cL_setRate 2 = .ok (.aload_n 0, 1) := by decide +kernel
theorem dL_setRate_3 : decode cL_setRate 3 = .ok (.iload_n 1, 1) := by decide +kernel
theorem dL_setRate_4 : decode cL_setRate 4 = .ok (.iload_n 2, 1) := by decide +kernel
theorem dL_setRate_5 : decode cL_setRate 5 = .ok (.invokevirtual 7, 3) := by decide +kernel
theorem dL_setRate_8 : decode cL_setRate 8 = .ok (.i2l, 1) := by decide +kernel
theorem dL_setRate_9 : decode cL_setRate 9 = .ok (.lastore, 1) := by decide +kernel
theorem dL_setRate_10 : decode cL_setRate 10 = .ok (.goto 7, 3) := by decide +kernel
theorem dL_setRate_13 : decode cL_setRate 13 = .ok (.astore 4, 2) := by decide +kernel
theorem dL_setRate_15 : decode cL_setRate 15 = .ok (.iconst 1, 1) := by decide +kernel
theorem dL_setRate_16 : decode cL_setRate 16 = .ok (.ireturn, 1) := by decide +kernel
theorem dL_setRate_17 : decode cL_setRate 17 = .ok (.iconst 0, 1) := by decide +kernel
theorem dL_setRate_18 : decode cL_setRate 18 = .ok (.ireturn, 1) := by decide +kernel
set_option maxRecDepth 20000 in
theorem ggL_setFold_X5_setFold : GoodIn wsL_setFold wsX5_setFold := goodIn_ca (goodIn_r _ [6, 7, 8, 9, 10, 11, 5, 12, 13, 14, 15, 16, 17, 18, 19, 20, 21] (by decide +kernel) (by decide +kernel)) (goodIn_sub (fun _ h => List.mem_cons_of_mem _ (List.mem_append_right _ h)) (by decide +kernel))
set_option maxRecDepth 20000 in
theorem gL_setFold_X5_setFold : GoodIn wsL_setFold (wsV RL 15 RX5 yX5_setFold wsX5_setFold) := goodIn_app (goodIn_of _ (by decide +kernel)) ggL_setFold_X5_setFold
theorem dL_setFold_0 : decode cL_setFold 0 = .ok (.aload_n 2, 1) := by decide +kernel
theorem dL_setFold_1 : decode cL_setFold 1 = .ok (.iconst 0, 1) := by decide +kernel
theorem dL_setFold_2 : decode cL_setFold 2 = .ok (.aload_n 0, 1) := by decide +kernel
theorem dL_setFold_3 : decode cL_setFold 3 = .ok (.iload_n 1, 1) := by decide +kernel
theorem dL_setFold_4 : decode cL_setFold 4 = .ok (.invokevirtual 15, 3) := by decide +kernel
theorem dL_setFold_7 : decode cL_setFold 7 = .ok (.i2l, 1) := by decide +kernel
theorem dL_setFold_8 : decode cL_setFold 8 = .ok (.lastore, 1) := by decide +kernel
theorem dL_setFold_9 : decode cL_setFold 9 = .ok (.goto 6, 3) := by decide +kernel
theorem dL_setFold_12 : decode cL_setFold 12 = .ok (.astore_n 3, 1) := by decide +kernel
theorem dL_setFold_13 : decode cL_setFold 13 = .ok (.iconst 1, 1) := by decide +kernel
theorem dL_setFold_14 : decode cL_setFold 14 = .ok (.ireturn, 1) := by decide +kernel
theorem dL_setFold_15 : decode cL_setFold 15 = .ok (.iconst 0, 1) := by decide +kernel
theorem dL_setFold_16 : decode cL_setFold 16 = .ok (.ireturn, 1) := by decide +kernel
set_option maxRecDepth 20000 in
theorem ggL_setRule_X5_setRule : GoodIn wsL_setRule wsX5_setRule := goodIn_ca (goodIn_ca (goodIn_r _ [7, 8, 9, 10, 11, 12, 13, 14, 6, 15, 16, 17, 18, 19, 20, 21, 22, 23, 24, 25, 26, 27, 28, 29, 30, 31, 32, 33, 34, 35, 36, 37, 38, 39, 40, 41, 42, 43, 44, 45, 46, 47, 48] (by decide +kernel) (by decide +kernel)) (goodIn_sub (fun _ h => List.mem_cons_of_mem _ (List.mem_append_left _ (List.mem_append_right _ h))) (by decide +kernel))) (goodIn_sub (fun _ h => List.mem_cons_of_mem _ (List.mem_append_right _ h)) (by decide +kernel))
set_option maxRecDepth 20000 in
theorem gL_setRule_X5_setRule : GoodIn wsL_setRule (wsV RL 19 RX5 yX5_setRule wsX5_setRule) := goodIn_app (goodIn_of _ (by decide +kernel)) ggL_setRule_X5_setRule
theorem dL_setRule_0 : decode cL_setRule 0 = .ok (.aload 6, 2) := by decide +kernel
theorem dL_setRule_2 : decode cL_setRule 2 = .ok (.iconst 0, 1) := by decide +kernel
theorem dL_setRule_3 : decode cL_setRule 3 = .ok (.aload_n 0, 1) := by decide +kernel
theorem dL_setRule_4 : decode cL_setRule 4 = .ok (.iload_n 1, 1) := by decide +kernel
theorem dL_setRule_5 : decode cL_setRule 5 = .ok (.iload_n 2, 1) := by decide +kernel
theorem dL_setRule_6 : decode cL_setRule 6 = .ok (.iload_n 3, 1) := by decide +kernel
theorem dL_setRule_7 : decode cL_setRule 7 = .ok (.iload 4, 2) := by decide +kernel
theorem dL_setRule_9 : decode cL_setRule 9 = .ok (.iload 5, 2) := by decide +kernel
theorem dL_setRule_11 : decode cL_setRule 11 = .ok (.invokevirtual 19, 3) := by decide +kernel
theorem dL_setRule_14 : decode cL_setRule 14 = .ok (.i2l, 1) := by decide +kernel
theorem dL_setRule_15 : decode cL_setRule 15 = .ok (.lastore, 1) := by decide +kernel
theorem dL_setRule_16 : decode cL_setRule 16 = .ok (.goto 11, 3) := by decide +kernel
theorem dL_setRule_19 : decode cL_setRule 19 = .ok (.astore 7, 2) := by decide +kernel
theorem dL_setRule_21 : decode cL_setRule 21 = .ok (.iconst 1, 1) := by decide +kernel
theorem dL_setRule_22 : decode cL_setRule 22 = .ok (.ireturn, 1) := by decide +kernel
theorem dL_setRule_23 : decode cL_setRule 23 = .ok (.astore 7, 2) := by decide +kernel
theorem dL_setRule_25 : decode cL_setRule 25 = .ok (.iconst 2, 1) := by decide +kernel
theorem dL_setRule_26 : decode cL_setRule 26 = .ok (.ireturn, 1) := by decide +kernel
theorem dL_setRule_27 : decode cL_setRule 27 = .ok (.iconst 0, 1) := by decide +kernel
theorem dL_setRule_28 : decode cL_setRule 28 = .ok (.ireturn, 1) := by decide +kernel
set_option maxRecDepth 20000 in
theorem ggL_removeRule_X5_removeRule : GoodIn wsL_removeRule wsX5_removeRule := goodIn_ca (goodIn_r _ [6, 7, 8, 9, 10, 5, 11, 12, 13, 14, 15, 16, 17, 18, 19, 20, 21, 22, 23, 24, 25, 26, 27, 28] (by decide +kernel) (by decide +kernel)) (goodIn_sub (fun _ h => List.mem_cons_of_mem _ (List.mem_append_right _ h)) (by decide +kernel))
set_option maxRecDepth 20000 in
theorem gL_removeRule_X5_removeRule : GoodIn wsL_removeRule (wsV RL 25 RX5 yX5_removeRule wsX5_removeRule) := goodIn_app (goodIn_of _ (by decide +kernel)) ggL_removeRule_X5_removeRule
theorem dL_removeRule_0 : decode cL_removeRule 0 = .ok (.aload_n 2, 1) := by decide +kernel
theorem dL_removeRule_1 : decode cL_removeRule 1 = .ok (.iconst 0, 1) := by decide +kernel
theorem dL_removeRule_2 : decode cL_removeRule 2 = .ok (.aload_n 0, 1) := by decide +kernel
theorem dL_removeRule_3 : decode cL_removeRule 3 = .ok (.iload_n 1, 1) := by decide +kernel
theorem dL_removeRule_4 : decode cL_removeRule 4 = .ok (.invokevirtual 25, 3) := by decide +kernel
theorem dL_removeRule_7 : decode cL_removeRule 7 = .ok (.ifCond .eq 7, 3) := by decide +kernel
theorem dL_removeRule_10 : decode cL_removeRule 10 = .ok (.lconst 1, 1) := by decide +kernel
theorem dL_removeRule_11 : decode cL_removeRule 11 = .ok (.goto 4, 3) := by decide +kernel
theorem dL_removeRule_14 : decode cL_removeRule 14 = .ok (.lconst 0, 1) := by decide +kernel
theorem dL_removeRule_15 : decode cL_removeRule 15 = .ok (.lastore, 1) := by decide +kernel
theorem dL_removeRule_16 : decode cL_removeRule 16 = .ok (.goto 6, 3) := by decide +kernel
theorem dL_removeRule_19 : decode cL_removeRule 19 = .ok (.astore_n 3, 1) := by decide +kernel
theorem dL_removeRule_20 : decode cL_removeRule 20 = .ok (.iconst 1, 1) := by decide +kernel
theorem dL_removeRule_21 : decode cL_removeRule 21 = .ok (.ireturn, 1) := by decide +kernel
theorem dL_removeRule_22 : decode cL_removeRule 22 = .ok (.iconst 0, 1) := by decide +kernel
theorem dL_removeRule_23 : decode cL_removeRule 23 = .ok (.ireturn, 1) := by decide +kernel
set_option maxRecDepth 20000 in
theorem ggL_setFile_X5_setFile : GoodIn wsL_setFile wsX5_setFile := goodIn_ca (goodIn_ca (goodIn_r _ [7, 8, 9, 10, 11, 12, 13, 6, 14, 15, 16, 17, 18, 19, 20, 21, 22, 23, 24, 25, 26, 27, 28, 29, 30, 31, 32, 33, 34, 35, 36, 37, 38, 39, 40, 41, 42, 43, 44, 45, 46, 47, 48] (by decide +kernel) (by decide +kernel)) (goodIn_sub (fun _ h => List.mem_cons_of_mem _ (List.mem_append_left _ (List.mem_append_right _ h))) (by decide +kernel))) (goodIn_sub (fun _ h => List.mem_cons_of_mem _ (List.mem_append_right _ h)) (by decide +kernel))
set_option maxRecDepth 20000 in
theorem gL_setFile_X5_setFile : GoodIn wsL_setFile (wsV RL 29 RX5 yX5_setFile wsX5_setFile) := goodIn_app (goodIn_of _ (by decide +kernel)) ggL_setFile_X5_setFile
theorem dL_setFile_0 : decode cL_setFile 0 = .ok (.aload 5, 2) := by decide +kernel
theorem dL_setFile_2 : decode cL_setFile 2 = .ok (.iconst 0, 1) := by decide +kernel
theorem dL_setFile_3 : decode cL_setFile 3 = .ok (.aload_n 0, 1) := by decide +kernel
theorem dL_setFile_4 : decode cL_setFile 4 = .ok (.iload_n 1, 1) := by decide +kernel
theorem dL_setFile_5 : decode cL_setFile 5 = .ok (.iload_n 2, 1) := by decide +kernel
theorem dL_setFile_6 : decode cL_setFile 6 = .ok (.iload_n 3, 1) := by decide +kernel
theorem dL_setFile_7 : decode cL_setFile 7 = .ok (.iload 4, 2) := by decide +kernel
theorem dL_setFile_9 : decode cL_setFile 9 = .ok (.invokevirtual 29, 3) := by decide +kernel
theorem dL_setFile_12 : decode cL_setFile 12 = .ok (.i2l, 1) := by decide +kernel
theorem dL_setFile_13 : decode cL_setFile 13 = .ok (.lastore, 1) := by decide +kernel
theorem dL_setFile_14 : decode cL_setFile 14 = .ok (.goto 11, 3) := by decide +kernel
theorem dL_setFile_17 : decode cL_setFile 17 = .ok (.astore 6, 2) := by decide +kernel
theorem dL_setFile_19 : decode cL_setFile 19 = .ok (.iconst 1, 1) := by decide +kernel
theorem dL_setFile_20 : decode cL_setFile 20 = .ok (.ireturn, 1) := by decide +kernel
theorem dL_setFile_21 : decode cL_setFile 21 = .ok (.astore 6, 2) := by decide +kernel
theorem dL_setFile_23 : decode cL_setFile 23 = .ok (.iconst 2, 1) := by decide +kernel
theorem dL_setFile_24 : decode cL_setFile 24 = .ok (.ireturn, 1) := by decide +kernel
theorem dL_setFile_25 : decode cL_setFile 25 = .ok (.iconst 0, 1) := by decide +kernel
theorem dL_setFile_26 : decode cL_setFile 26 = .ok (.ireturn, 1) := by decide +kernel
set_option maxRecDepth 20000 in
theorem ggL_message_X5_message : GoodIn wsL_message wsX5_message := goodIn_ca (goodIn_ca (goodIn_ca (goodIn_r _ [8, 9, 10, 11, 12, 13, 14, 15, 16, 17, 18, 19, 20, 21, 7, 22, 23, 24, 25, 26, 27, 28, 29, 30, 31, 32, 33, 34, 35, 36, 37, 38, 39, 40, 41, 42, 43, 44, 45, 46, 47, 48, 49, 50, 51, 52, 53, 54, 55, 56, 57, 58, 59, 60, 61, 62, 63, 64, 65, 66, 67, 68, 69, 70, 71, 72, 73, 74, 75, 76, 77, 78, 79, 80, 81, 82, 83, 84, 85, 86, 87, 88, 89, 90, 91, 92, 93, 94, 95, 96, 97, 98, 99, 100, 101, 102, 103, 104, 105, 106, 107, 108, 109, 110, 111, 112, 113, 114, 115, 116, 117, 118, 119, 120, 121, 122, 123, 124, 125, 126, 127, 128, 129, 130, 131, 132, 133, 134, 135, 136, 137, 138, 139, 140, 141, 142, 143, 144, 145, 146, 147, 148, 149, 150, 151, 152, 153, 154, 155, 156, 157, 158, 159, 160, 161, 162] (by decide +kernel) (by decide +kernel)) (goodIn_sub (fun _ h => List.mem_cons_of_mem _ (List.mem_append_left _ (List.mem_append_left _ (List.mem_append_right _ h)))) (by decide +kernel))) (goodIn_sub (fun _ h => List.mem_cons_of_mem _ (List.mem_append_left _ (List.mem_append_right _ h))) (by decide +kernel))) (goodIn_sub (fun _ h => List.mem_cons_of_mem _ (List.mem_append_right _ h)) (by decide +kernel))
set_option maxRecDepth 20000 in
theorem gL_message_X5_message : GoodIn wsL_message (wsV RL 33 RX5 yX5_message wsX5_message) := goodIn_app (goodIn_of _ (by decide +kernel)) ggL_message_X5_message
theorem dL_message_0 : decode cL_message 0 = .ok (.aload 6, 2) := by decide +kernel
theorem dL_message_2 : decode cL_message 2 = .ok (.iconst 0, 1) := by decide +kernel
theorem dL_message_3 : decode cL_message 3 = .ok (.aload_n 0, 1) := by decide +kernel
theorem dL_message_4 : decode cL_message 4 = .ok (.iload_n 1, 1) := by decide +kernel
theorem dL_message_5 : decode cL_message 5 = .ok (.iload_n 2, 1) := by decide +kernel
theorem dL_message_6 : decode cL_message 6 = .ok (.iload_n 3, 1) := by decide +kernel
theorem dL_message_7 : decode cL_message 7 = .ok (.iload 4, 2) := by decide +kernel
theorem dL_message_9 : decode cL_message 9 = .ok (.iload 5, 2) := by decide +kernel
theorem dL_message_11 : decode cL_message 11 = .ok (.invokevirtual 33, 3) := by decide +kernel
theorem dL_message_14 : decode cL_message 14 = .ok (.i2l, 1) := by decide +kernel
theorem dL_message_15 : decode cL_message 15 = .ok (.lastore, 1) := by decide +kernel
theorem dL_message_16 : decode cL_message 16 = .ok (.goto 15, 3) := by decide +kernel
theorem dL_message_19 : decode cL_message 19 = .ok (.astore 7, 2) := by decide +kernel
theorem dL_message_21 : decode cL_message 21 = .ok (.iconst 1, 1) := by decide +kernel
theorem dL_message_22 : decode cL_message 22 = .ok (.ireturn, 1) := by decide +kernel
theorem dL_message_23 : decode cL_message 23 = .ok (.astore 7, 2) := by decide +kernel
theorem dL_message_25 : decode cL_message 25 = .ok (.iconst 2, 1) := by decide +kernel
theorem dL_message_26 : decode cL_message 26 = .ok (.ireturn, 1) := by decide +kernel
theorem dL_message_27 : decode cL_message 27 = .ok (.astore 7, 2) := by decide +kernel
theorem dL_message_29 : decode cL_message 29 = .ok (.iconst 3, 1) := by decide +kernel
theorem dL_message_30 : decode cL_message 30 = .ok (.ireturn, 1) := by decide +kernel
theorem dL_message_31 : decode cL_message 31 = .ok (.iconst 0, 1) := by decide +kernel
theorem dL_message_32 : decode cL_message 32 = .ok (.ireturn, 1) := by decide +kernel
set_option maxRecDepth 20000 in
theorem ggL_pass_X5_pass : GoodIn wsL_pass wsX5_pass := goodIn_ca (goodIn_r _ [6, 7, 8, 9, 10, 5, 11, 12, 13, 14, 15, 16, 17, 18, 19, 20, 21, 22, 23, 24, 25, 26, 27, 28, 29, 30, 31, 32, 33, 34, 35, 36, 37, 38, 39, 40, 41, 42, 43, 44, 45, 46, 47, 48, 49, 50, 51, 52, 53, 54, 55, 56, 57, 58, 59, 60, 61, 62, 63, 64, 65, 66, 67, 68, 69, 70, 71, 72, 73, 74, 75, 76, 77, 78, 79, 80, 81, 82, 83, 84, 85, 86, 87, 88, 89, 90, 91, 92, 93, 94, 95, 96, 97, 98, 99, 100, 101, 102, 103, 104, 105, 106, 107, 108, 109, 110, 111, 112, 113, 114, 115, 116, 117, 118, 119, 120, 121, 122, 123, 124, 125, 126, 127, 128, 129, 130, 131, 132, 133, 134, 135, 136, 137, 138, 139, 140, 141, 142, 143, 144, 145, 146, 147, 148, 149] (by decide +kernel) (by decide +kernel)) (goodIn_sub (fun _ h => List.mem_cons_of_mem _ (List.mem_append_right _ h)) (by decide +kernel))
set_option maxRecDepth 20000 in
theorem gL_pass_X5_pass : GoodIn wsL_pass (wsV RL 38 RX5 yX5_pass wsX5_pass) := goodIn_app (goodIn_of _ (by decide +kernel)) ggL_pass_X5_pass
theorem dL_pass_0 : decode cL_pass 0 = .ok (.aload_n 2, 1) := by decide +kernel
theorem dL_pass_1 : decode cL_pass 1 = .ok (.iconst 0, 1) := by decide +kernel
theorem dL_pass_2 : decode cL_pass 2 = .ok (.aload_n 0, 1) := by decide +kernel
theorem dL_pass_3 : decode cL_pass 3 = .ok (.iload_n 1, 1) := by decide +kernel
theorem dL_pass_4 : decode cL_pass 4 = .ok (.invokevirtual 38, 3) := by decide +kernel
theorem dL_pass_7 : decode cL_pass 7 = .ok (.i2l, 1) := by decide +kernel
theorem dL_pass_8 : decode cL_pass 8 = .ok (.lastore, 1) := by decide +kernel
theorem dL_pass_9 : decode cL_pass 9 = .ok (.goto 6, 3) := by decide +kernel
theorem dL_pass_12 : decode cL_pass 12 = .ok (.astore_n 3, 1) := by decide +kernel
theorem dL_pass_13 : decode cL_pass 13 = .ok (.iconst 1, 1) := by decide +kernel
theorem dL_pass_14 : decode cL_pass 14 = .ok (.ireturn, 1) := by decide +kernel
theorem dL_pass_15 : decode cL_pass 15 = .ok (.iconst 0, 1) := by decide +kernel
theorem dL_pass_16 : decode cL_pass 16 = .ok (.ireturn, 1) := by decide +kernel
set_option maxRecDepth 20000 in
theorem ggL_rotate_X5_rotate : GoodIn wsL_rotate wsX5_rotate := goodIn_ca (goodIn_ca (goodIn_r _ [7, 8, 9, 10, 11, 12, 13, 6, 14, 15, 16, 17, 18, 19, 20, 21, 22, 23, 24, 25, 26, 27, 28, 29, 30, 31, 32, 33, 34, 35, 36, 37, 38, 39, 40, 41, 42, 43, 44, 45, 46, 47, 48, 49, 50, 51] (by decide +kernel) (by decide +kernel)) (goodIn_sub (fun _ h => List.mem_cons_of_mem _ (List.mem_append_left _ (List.mem_append_right _ h))) (by decide +kernel))) (goodIn_sub (fun _ h => List.mem_cons_of_mem _ (List.mem_append_right _ h)) (by decide +kernel))
set_option maxRecDepth 20000 in
theorem gL_rotate_X5_rotate : GoodIn wsL_rotate (wsV RL 41 RX5 yX5_rotate wsX5_rotate) := goodIn_app (goodIn_of _ (by decide +kernel)) ggL_rotate_X5_rotate
theorem dL_rotate_0 : decode cL_rotate 0 = .ok (.aload_n 2, 1) := by decide +kernel
theorem dL_rotate_1 : decode cL_rotate 1 = .ok (.iconst 0, 1) := by decide +kernel
theorem dL_rotate_2 : decode cL_rotate 2 = .ok (.aload_n 0, 1) := by decide +kernel
theorem dL_rotate_3 : decode cL_rotate 3 = .ok (.iload_n 1, 1) := by decide +kernel
theorem dL_rotate_4 : decode cL_rotate 4 = .ok (.invokevirtual 41, 3) := by decide +kernel
theorem dL_rotate_7 : decode cL_rotate 7 = .ok (.i2l, 1) := by decide +kernel
theorem dL_rotate_8 : decode cL_rotate 8 = .ok (.lastore, 1) := by decide +kernel
theorem dL_rotate_9 : decode cL_rotate 9 = .ok (.goto 9, 3) := by decide +kernel
theorem dL_rotate_12 : decode cL_rotate 12 = .ok (.astore_n 3, 1) := by decide +kernel
theorem dL_rotate_13 : decode cL_rotate 13 = .ok (.iconst 1, 1) := by decide +kernel
theorem dL_rotate_14 : decode cL_rotate 14 = .ok (.ireturn, 1) := by decide +kernel
theorem dL_rotate_15 : decode cL_rotate 15 = .ok (.astore_n 3, 1) := by decide +kernel
theorem dL_rotate_16 : decode cL_rotate 16 = .ok (.iconst 2, 1) := by decide +kernel
theorem dL_rotate_17 : decode cL_rotate 17 = .ok (.ireturn, 1) := by decide +kernel
theorem dL_rotate_18 : decode cL_rotate 18 = .ok (.iconst 0, 1) := by decide +kernel
theorem dL_rotate_19 : decode cL_rotate 19 = .ok (.ireturn, 1) := by decide +kernel
set_option maxRecDepth 20000 in
theorem ggL_connect_X5_connect : GoodIn wsL_connect wsX5_connect := goodIn_ca (goodIn_r _ [6, 7, 8, 9, 10, 11, 12, 13, 14, 15, 16, 17, 18, 19, 20, 21, 22, 23, 24, 25, 26, 27, 28, 29, 30, 31, 32] (by decide +kernel) (by decide +kernel)) (goodIn_sub (fun _ h => List.mem_cons_of_mem _ (List.mem_append_right _ h)) (by decide +kernel))
set_option maxRecDepth 20000 in
theorem gL_connect_X5_connect : GoodIn wsL_connect (wsV RL 44 RX5 yX5_connect wsX5_connect) := goodIn_app (goodIn_of _ (by decide +kernel)) ggL_connect_X5_connect
theorem dL_connect_0 : decode cL_connect 0 = .ok (.aload_n 1, 1) := by decide +kernel
theorem dL_connect_1 : decode cL_connect 1 = .ok (.iconst 0, 1) := by decide +kernel
theorem dL_connect_2 : decode cL_connect 2 = .ok (.aload_n 0, 1) := by decide +kernel
theorem dL_connect_3 : decode cL_connect 3 = .ok (.invokevirtual 44, 3) := by decide +kernel
theorem dL_connect_6 : decode cL_connect 6 = .ok (.i2l, 1) := by decide +kernel
theorem dL_connect_7 : decode cL_connect 7 = .ok (.lastore, 1) := by decide +kernel
theorem dL_connect_8 : decode cL_connect 8 = .ok (.goto 6, 3) := by decide +kernel
theorem dL_connect_11 : decode cL_connect 11 = .ok (.astore_n 2, 1) := by decide +kernel
theorem dL_connect_12 : decode cL_connect 12 = .ok (.iconst 1, 1) := by decide +kernel
theorem dL_connect_13 : decode cL_connect 13 = .ok (.ireturn, 1) := by decide +kernel
theorem dL_connect_14 : decode cL_connect 14 = .ok (.iconst 0, 1) := by decide +kernel
theorem dL_connect_15 : decode cL_connect 15 = .ok (.ireturn, 1) := by decide +kernel
set_option maxRecDepth 20000 in
theorem ggL_disconnect_X5_disconnect : GoodIn wsL_disconnect wsX5_disconnect := goodIn_ca (goodIn_r _ [6, 7, 8, 9, 10, 11, 12, 13, 14, 15, 16, 17, 18, 19, 20, 21, 22, 23, 24, 25, 26, 27, 28, 29, 30, 31, 32, 33, 34, 35, 36, 37] (by decide +kernel) (by decide +kernel)) (goodIn_sub (fun _ h => List.mem_cons_of_mem _ (List.mem_append_right _ h)) (by decide +kernel))
set_option maxRecDepth 20000 in
theorem gL_disconnect_X5_disconnect : GoodIn wsL_disconnect (wsV RL 48 RX5 yX5_disconnect wsX5_disconnect) := goodIn_app (goodIn_of _ (by decide +kernel)) ggL_disconnect_X5_disconnect
theorem dL_disconnect_0 : decode cL_disconnect 0 = .ok (.aload_n 1, 1) := by decide +kernel
theorem dL_disconnect_1 : decode cL_disconnect 1 = .ok (.iconst 0, 1) := by decide +kernel
theorem dL_disconnect_2 : decode cL_disconnect 2 = .ok (.aload_n 0, 1) := by decide +kernel
theorem dL_disconnect_3 : decode cL_disconnect 3 = .ok (.invokevirtual 48, 3) := by decide +kernel
theorem dL_disconnect_6 : decode cL_disconnect 6 = .ok (.i2l, 1) := by decide +kernel
theorem dL_disconnect_7 : decode cL_disconnect 7 = .ok (.lastore, 1) := by decide +kernel
theorem dL_disconnect_8 : decode cL_disconnect 8 = .ok (.goto 6, 3) := by decide +kernel
theorem dL_disconnect_11 : decode cL_disconnect 11 = .ok (.astore_n 2, 1) := by decide +kernel
theorem dL_disconnect_12 : decode cL_disconnect 12 = .ok (.iconst 1, 1) := by decide +kernel
theorem dL_disconnect_13 : decode cL_disconnect 13 = .ok (.ireturn, 1) := by decide +kernel
theorem dL_disconnect_14 : decode cL_disconnect 14 = .ok (.iconst 0, 1) := by decide +kernel
theorem dL_disconnect_15 : decode cL_disconnect 15 = .ok (.ireturn, 1) := by decide +kernel
set_option maxRecDepth 20000 in
theorem ggL_send_X5_send : GoodIn wsL_send wsX5_send := goodIn_ca (goodIn_r _ [6, 7, 8, 9, 10, 11, 12, 13, 14, 15, 16, 17, 18, 19, 20, 21, 22, 23, 24, 25, 26, 27, 28, 29, 30, 31, 32, 33, 34, 35, 36, 37, 38, 39, 40, 41, 42, 43, 44, 45, 46, 47, 48, 49, 50] (by decide +kernel) (by decide +kernel)) (goodIn_sub (fun _ h => List.mem_cons_of_mem _ (List.mem_append_right _ h)) (by decide +kernel))
set_option maxRecDepth 20000 in
theorem gL_send_X5_send : GoodIn wsL_send (wsV RL 51 RX5 yX5_send wsX5_send) := goodIn_app (goodIn_of _ (by decide +kernel)) ggL_send_X5_send
theorem dL_send_0 : decode cL_send 0 = .ok (.aload_n 1, 1) := by decide +kernel
theorem dL_send_1 : decode cL_send 1 = .ok (.iconst 0, 1) := by decide +kernel
theorem dL_send_2 : decode cL_send 2 = .ok (.aload_n 0, 1) := by decide +kernel
theorem dL_send_3 : decode cL_send 3 = .ok (.invokevirtual 51, 3) := by decide +kernel
theorem dL_send_6 : decode cL_send 6 = .ok (.i2l, 1) := by decide +kernel
theorem dL_send_7 : decode cL_send 7 = .ok (.lastore, 1) := by decide +kernel
theorem dL_send_8 : decode cL_send 8 = .ok (.goto 6, 3) := by decide +kernel
theorem dL_send_11 : decode cL_send 11 = .ok (.astore_n 2, 1) := by decide +kernel
theorem dL_send_12 : decode cL_send 12 = .ok (.iconst 1, 1) := by decide +kernel
theorem dL_send_13 : decode cL_send 13 = .ok (.ireturn, 1) := by decide +kernel
theorem dL_send_14 : decode cL_send 14 = .ok (.iconst 0, 1) := by decide +kernel
theorem dL_send_15 : decode cL_send 15 = .ok (.ireturn, 1) := by decide +kernel
set_option maxRecDepth 20000 in
theorem ggL_acknowledge_X5_acknowledge : GoodIn wsL_acknowledge wsX5_acknowledge := goodIn_ca (goodIn_r _ [6, 7, 8, 9, 10, 11, 12, 13, 14, 15, 16, 17, 18, 19, 20, 21, 22, 23, 24, 25, 26, 27, 28, 29, 30, 31, 32, 33, 34, 35, 36, 37, 38, 39, 40] (by decide +kernel) (by decide +kernel)) (goodIn_sub (fun _ h => List.mem_cons_of_mem _ (List.mem_append_right _ h)) (by decide +kernel))
set_option maxRecDepth 20000 in
theorem gL_acknowledge_X5_acknowledge : GoodIn wsL_acknowledge (wsV RL 54 RX5 yX5_acknowledge wsX5_acknowledge) := goodIn_app (goodIn_of _ (by decide +kernel)) ggL_acknowledge_X5_acknowledge
theorem dL_acknowledge_0 : decode cL_acknowledge 0 = .ok (.aload_n 1, 1) := by decide +kernel
theorem dL_acknowledge_1 : decode cL_acknowledge 1 = .ok (.iconst 0, 1) := by decide +kernel
theorem dL_acknowledge_2 : decode cL_acknowledge 2 = .ok (.aload_n 0, 1) := by decide +kernel
theorem dL_acknowledge_3 : decode cL_acknowledge 3 = .ok (.invokevirtual 54, 3) := by decide +kernel
theorem dL_acknowledge_6 : decode cL_acknowledge 6 = .ok (.i2l, 1) := by decide +kernel
theorem dL_acknowledge_7 : decode cL_acknowledge 7 = .ok (.lastore, 1) := by decide +kernel
theorem dL_acknowledge_8 : decode cL_acknowledge 8 = .ok (.goto 6, 3) := by decide +kernel
theorem dL_acknowledge_11 : decode cL_acknowledge 11 = .ok (.astore_n 2, 1) := by decide +kernel
theorem dL_acknowledge_12 : decode cL_acknowledge 12 = .ok (.iconst 1, 1) := by decide +kernel
theorem dL_acknowledge_13 : decode cL_acknowledge 13 = .ok (.ireturn, 1) := by decide +kernel
theorem dL_acknowledge_14 : decode cL_acknowledge 14 = .ok (.iconst 0, 1) := by decide +kernel
theorem dL_acknowledge_15 : decode cL_acknowledge 15 = .ok (.ireturn, 1) := by decide +kernel
set_option maxRecDepth 20000 in
theorem ggL_tokens_X5_tokens : GoodIn wsL_tokens wsX5_tokens := goodIn_ca (goodIn_r _ [6, 7, 8, 9, 10, 5, 11, 12, 13, 14, 15, 16, 17, 18, 19, 20, 21, 22, 23, 24, 25, 26, 27, 28, 29, 30, 31, 32] (by decide +kernel) (by decide +kernel)) (goodIn_sub (fun _ h => List.mem_cons_of_mem _ (List.mem_append_right _ h)) (by decide +kernel))
set_option maxRecDepth 20000 in
theorem gL_tokens_X5_tokens : GoodIn wsL_tokens (wsV RL 57 RX5 yX5_tokens wsX5_tokens) := goodIn_app (goodIn_of _ (by decide +kernel)) ggL_tokens_X5_tokens
theorem dL_tokens_0 : decode cL_tokens 0 = .ok (.aload_n 2, 1) := by decide +kernel
theorem dL_tokens_1 : decode cL_tokens 1 = .ok (.iconst 0, 1) := by decide +kernel
theorem dL_tokens_2 : decode cL_tokens 2 = .ok (.aload_n 0, 1) := by decide +kernel
theorem dL_tokens_3 : decode cL_tokens 3 = .ok (.iload_n 1, 1) := by decide +kernel
theorem dL_tokens_4 : decode cL_tokens 4 = .ok (.invokevirtual 57, 3) := by decide +kernel
theorem dL_tokens_7 : decode cL_tokens 7 = .ok (.i2l, 1) := by decide +kernel
theorem dL_tokens_8 : decode cL_tokens 8 = .ok (.lastore, 1) := by decide +kernel
theorem dL_tokens_9 : decode cL_tokens 9 = .ok (.goto 6, 3) := by decide +kernel
theorem dL_tokens_12 : decode cL_tokens 12 = .ok (.astore_n 3, 1) := by decide +kernel
theorem dL_tokens_13 : decode cL_tokens 13 = .ok (.iconst 1, 1) := by decide +kernel
theorem dL_tokens_14 : decode cL_tokens 14 = .ok (.ireturn, 1) := by decide +kernel
theorem dL_tokens_15 : decode cL_tokens 15 = .ok (.iconst 0, 1) := by decide +kernel
theorem dL_tokens_16 : decode cL_tokens 16 = .ok (.ireturn, 1) := by decide +kernel
set_option maxRecDepth 20000 in
theorem ggL_repeats_X5_repeats : GoodIn wsL_repeats wsX5_repeats := goodIn_ca (goodIn_r _ [6, 7, 8, 9, 10, 5, 11, 12, 13, 14, 15, 16, 17, 18, 19, 20, 21, 22, 23, 24, 25, 26, 27, 28, 29, 30, 31, 32] (by decide +kernel) (by decide +kernel)) (goodIn_sub (fun _ h => List.mem_cons_of_mem _ (List.mem_append_right _ h)) (by decide +kernel))
set_option maxRecDepth 20000 in
theorem gL_repeats_X5_repeats : GoodIn wsL_repeats (wsV RL 60 RX5 yX5_repeats wsX5_repeats) := goodIn_app (goodIn_of _ (by decide +kernel)) ggL_repeats_X5_repeats
theorem dL_repeats_0 : decode cL_repeats 0 = .ok (.aload_n 2, 1) := by decide +kernel
theorem dL_repeats_1 : decode cL_repeats 1 = .ok (.iconst 0, 1) := by decide +kernel
theorem dL_repeats_2 : decode cL_repeats 2 = .ok (.aload_n 0, 1) := by decide +kernel
theorem dL_repeats_3 : decode cL_repeats 3 = .ok (.iload_n 1, 1) := by decide +kernel
theorem dL_repeats_4 : decode cL_repeats 4 = .ok (.invokevirtual 60, 3) := by decide +kernel
theorem dL_repeats_7 : decode cL_repeats 7 = .ok (.i2l, 1) := by decide +kernel
theorem dL_repeats_8 : decode cL_repeats 8 = .ok (.lastore, 1) := by decide +kernel
theorem dL_repeats_9 : decode cL_repeats 9 = .ok (.goto 6, 3) := by decide +kernel
theorem dL_repeats_12 : decode cL_repeats 12 = .ok (.astore_n 3, 1) := by decide +kernel
theorem dL_repeats_13 : decode cL_repeats 13 = .ok (.iconst 1, 1) := by decide +kernel
theorem dL_repeats_14 : decode cL_repeats 14 = .ok (.ireturn, 1) := by decide +kernel
theorem dL_repeats_15 : decode cL_repeats 15 = .ok (.iconst 0, 1) := by decide +kernel
theorem dL_repeats_16 : decode cL_repeats 16 = .ok (.ireturn, 1) := by decide +kernel
set_option maxRecDepth 20000 in
theorem ggL_drops_X5_drops : GoodIn wsL_drops wsX5_drops := goodIn_ca (goodIn_r _ [6, 7, 8, 9, 10, 5, 11, 12, 13, 14, 15, 16, 17, 18, 19, 20, 21, 22, 23, 24, 25, 26, 27, 28, 29, 30, 31, 32] (by decide +kernel) (by decide +kernel)) (goodIn_sub (fun _ h => List.mem_cons_of_mem _ (List.mem_append_right _ h)) (by decide +kernel))
set_option maxRecDepth 20000 in
theorem gL_drops_X5_drops : GoodIn wsL_drops (wsV RL 63 RX5 yX5_drops wsX5_drops) := goodIn_app (goodIn_of _ (by decide +kernel)) ggL_drops_X5_drops
theorem dL_drops_0 : decode cL_drops 0 = .ok (.aload_n 2, 1) := by decide +kernel
theorem dL_drops_1 : decode cL_drops 1 = .ok (.iconst 0, 1) := by decide +kernel
theorem dL_drops_2 : decode cL_drops 2 = .ok (.aload_n 0, 1) := by decide +kernel
theorem dL_drops_3 : decode cL_drops 3 = .ok (.iload_n 1, 1) := by decide +kernel
theorem dL_drops_4 : decode cL_drops 4 = .ok (.invokevirtual 63, 3) := by decide +kernel
theorem dL_drops_7 : decode cL_drops 7 = .ok (.i2l, 1) := by decide +kernel
theorem dL_drops_8 : decode cL_drops 8 = .ok (.lastore, 1) := by decide +kernel
theorem dL_drops_9 : decode cL_drops 9 = .ok (.goto 6, 3) := by decide +kernel
theorem dL_drops_12 : decode cL_drops 12 = .ok (.astore_n 3, 1) := by decide +kernel
theorem dL_drops_13 : decode cL_drops 13 = .ok (.iconst 1, 1) := by decide +kernel
theorem dL_drops_14 : decode cL_drops 14 = .ok (.ireturn, 1) := by decide +kernel
theorem dL_drops_15 : decode cL_drops 15 = .ok (.iconst 0, 1) := by decide +kernel
theorem dL_drops_16 : decode cL_drops 16 = .ok (.ireturn, 1) := by decide +kernel
set_option maxRecDepth 20000 in
theorem ggL_size_X5_size : GoodIn wsL_size wsX5_size := goodIn_ca (goodIn_r _ [6, 7, 8, 9, 10, 5, 11, 12, 13, 14, 15, 16, 17, 18, 19, 20, 21, 22, 23, 24, 25, 26, 27, 28, 29, 30, 31, 32, 33] (by decide +kernel) (by decide +kernel)) (goodIn_sub (fun _ h => List.mem_cons_of_mem _ (List.mem_append_right _ h)) (by decide +kernel))
set_option maxRecDepth 20000 in
theorem gL_size_X5_size : GoodIn wsL_size (wsV RL 66 RX5 yX5_size wsX5_size) := goodIn_app (goodIn_of _ (by decide +kernel)) ggL_size_X5_size
theorem dL_size_0 : decode cL_size 0 = .ok (.aload_n 2, 1) := by decide +kernel
theorem dL_size_1 : decode cL_size 1 = .ok (.iconst 0, 1) := by decide +kernel
theorem dL_size_2 : decode cL_size 2 = .ok (.aload_n 0, 1) := by decide +kernel
theorem dL_size_3 : decode cL_size 3 = .ok (.iload_n 1, 1) := by decide +kernel
theorem dL_size_4 : decode cL_size 4 = .ok (.invokevirtual 66, 3) := by decide +kernel
theorem dL_size_7 : decode cL_size 7 = .ok (.i2l, 1) := by decide +kernel
theorem dL_size_8 : decode cL_size 8 = .ok (.lastore, 1) := by decide +kernel
theorem dL_size_9 : decode cL_size 9 = .ok (.goto 6, 3) := by decide +kernel
theorem dL_size_12 : decode cL_size 12 = .ok (.astore_n 3, 1) := by decide +kernel
theorem dL_size_13 : decode cL_size 13 = .ok (.iconst 1, 1) := by decide +kernel
theorem dL_size_14 : decode cL_size 14 = .ok (.ireturn, 1) := by decide +kernel
theorem dL_size_15 : decode cL_size 15 = .ok (.iconst 0, 1) := by decide +kernel
theorem dL_size_16 : decode cL_size 16 = .ok (.ireturn, 1) := by decide +kernel
set_option maxRecDepth 20000 in
theorem ggL_lines_X5_lines : GoodIn wsL_lines wsX5_lines := goodIn_ca (goodIn_r _ [6, 7, 8, 9, 10, 11, 5, 12, 13, 14, 15, 16, 17, 18, 19, 20, 21, 22, 23, 24, 25, 26, 27, 28, 29, 30, 31, 32, 33, 34, 35, 36, 37, 38, 39, 40, 41, 42, 43, 44, 45, 46, 47, 48] (by decide +kernel) (by decide +kernel)) (goodIn_sub (fun _ h => List.mem_cons_of_mem _ (List.mem_append_right _ h)) (by decide +kernel))
set_option maxRecDepth 20000 in
theorem gL_lines_X5_lines : GoodIn wsL_lines (wsV RL 69 RX5 yX5_lines wsX5_lines) := goodIn_app (goodIn_of _ (by decide +kernel)) ggL_lines_X5_lines
theorem dL_lines_0 : decode cL_lines 0 = .ok (.aload_n 3, 1) := by decide +kernel
theorem dL_lines_1 : decode cL_lines 1 = .ok (.iconst 0, 1) := by decide +kernel
theorem dL_lines_2 : decode cL_lines 2 = .ok (.aload_n 0, 1) := by decide +kernel
theorem dL_lines_3 : decode cL_lines 3 = .ok (.iload_n 1, 1) := by decide +kernel
theorem dL_lines_4 : decode cL_lines 4 = .ok (.iload_n 2, 1) := by decide +kernel
theorem dL_lines_5 : decode cL_lines 5 = .ok (.invokevirtual 69, 3) := by decide +kernel
theorem dL_lines_8 : decode cL_lines 8 = .ok (.i2l, 1) := by decide +kernel
theorem dL_lines_9 : decode cL_lines 9 = .ok (.lastore, 1) := by decide +kernel
theorem dL_lines_10 : decode cL_lines 10 = .ok (.goto 7, 3) := by decide +kernel
theorem dL_lines_13 : decode cL_lines 13 = .ok (.astore 4, 2) := by decide +kernel
theorem dL_lines_15 : decode cL_lines 15 = .ok (.iconst 1, 1) := by decide +kernel
theorem dL_lines_16 : decode cL_lines 16 = .ok (.ireturn, 1) := by decide +kernel
theorem dL_lines_17 : decode cL_lines 17 = .ok (.iconst 0, 1) := by decide +kernel
theorem dL_lines_18 : decode cL_lines 18 = .ok (.ireturn, 1) := by decide +kernel
set_option maxRecDepth 20000 in
theorem ggL_line_X5_line : GoodIn wsL_line wsX5_line := goodIn_ca (goodIn_r _ [6, 7, 8, 9, 10, 11, 5, 12, 13, 14, 15, 16, 17, 18, 19, 20, 21, 22, 23, 24, 25, 26, 27, 28, 29, 30, 31, 32, 33, 34, 35, 36, 37, 38, 39, 40, 41, 42, 43, 44, 45, 46, 47, 48, 49, 50, 51, 52, 53, 54, 55, 56] (by decide +kernel) (by decide +kernel)) (goodIn_sub (fun _ h => List.mem_cons_of_mem _ (List.mem_append_right _ h)) (by decide +kernel))
set_option maxRecDepth 20000 in
theorem gL_line_X5_line : GoodIn wsL_line (wsV RL 72 RX5 yX5_line wsX5_line) := goodIn_app (goodIn_of _ (by decide +kernel)) ggL_line_X5_line
theorem dL_line_0 : decode cL_line 0 = .ok (.aload 4, 2) := by decide +kernel
theorem dL_line_2 : decode cL_line 2 = .ok (.iconst 0, 1) := by decide +kernel
theorem dL_line_3 : decode cL_line 3 = .ok (.aload_n 0, 1) := by decide +kernel
theorem dL_line_4 : decode cL_line 4 = .ok (.iload_n 1, 1) := by decide +kernel
theorem dL_line_5 : decode cL_line 5 = .ok (.iload_n 2, 1) := by decide +kernel
theorem dL_line_6 : decode cL_line 6 = .ok (.iload_n 3, 1) := by decide +kernel
theorem dL_line_7 : decode cL_line 7 = .ok (.invokevirtual 72, 3) := by decide +kernel
theorem dL_line_10 : decode cL_line 10 = .ok (.i2l, 1) := by decide +kernel
theorem dL_line_11 : decode cL_line 11 = .ok (.lastore, 1) := by decide +kernel
theorem dL_line_12 : decode cL_line 12 = .ok (.goto 7, 3) := by decide +kernel
theorem dL_line_15 : decode cL_line 15 = .ok (.astore 5, 2) := by decide +kernel
theorem dL_line_17 : decode cL_line 17 = .ok (.iconst 1, 1) := by decide +kernel
theorem dL_line_18 : decode cL_line 18 = .ok (.ireturn, 1) := by decide +kernel
theorem dL_line_19 : decode cL_line 19 = .ok (.iconst 0, 1) := by decide +kernel
theorem dL_line_20 : decode cL_line 20 = .ok (.ireturn, 1) := by decide +kernel
set_option maxRecDepth 20000 in
theorem ggL_generations_X5_generations : GoodIn wsL_generations wsX5_generations := goodIn_ca (goodIn_r _ [6, 7, 8, 9, 10, 5, 11, 12, 13, 14, 15, 16, 17, 18, 19, 20, 21, 22, 23, 24, 25, 26, 27, 28, 29, 30, 31, 32, 33] (by decide +kernel) (by decide +kernel)) (goodIn_sub (fun _ h => List.mem_cons_of_mem _ (List.mem_append_right _ h)) (by decide +kernel))
set_option maxRecDepth 20000 in
theorem gL_generations_X5_generations : GoodIn wsL_generations (wsV RL 76 RX5 yX5_generations wsX5_generations) := goodIn_app (goodIn_of _ (by decide +kernel)) ggL_generations_X5_generations
theorem dL_generations_0 : decode cL_generations 0 = .ok (.aload_n 2, 1) := by decide +kernel
theorem dL_generations_1 : decode cL_generations 1 = .ok (.iconst 0, 1) := by decide +kernel
theorem dL_generations_2 : decode cL_generations 2 = .ok (.aload_n 0, 1) := by decide +kernel
theorem dL_generations_3 : decode cL_generations 3 = .ok (.iload_n 1, 1) := by decide +kernel
theorem dL_generations_4 : decode cL_generations 4 = .ok (.invokevirtual 76, 3) := by decide +kernel
theorem dL_generations_7 : decode cL_generations 7 = .ok (.i2l, 1) := by decide +kernel
theorem dL_generations_8 : decode cL_generations 8 = .ok (.lastore, 1) := by decide +kernel
theorem dL_generations_9 : decode cL_generations 9 = .ok (.goto 6, 3) := by decide +kernel
theorem dL_generations_12 : decode cL_generations 12 = .ok (.astore_n 3, 1) := by decide +kernel
theorem dL_generations_13 : decode cL_generations 13 = .ok (.iconst 1, 1) := by decide +kernel
theorem dL_generations_14 : decode cL_generations 14 = .ok (.ireturn, 1) := by decide +kernel
theorem dL_generations_15 : decode cL_generations 15 = .ok (.iconst 0, 1) := by decide +kernel
theorem dL_generations_16 : decode cL_generations 16 = .ok (.ireturn, 1) := by decide +kernel
set_option maxRecDepth 20000 in
theorem ggL_fateOf_X5_fateOf : GoodIn wsL_fateOf wsX5_fateOf := goodIn_ca (goodIn_r _ [6, 7, 8, 9, 10, 11, 12, 13, 14, 15, 16, 17, 18, 19, 20, 21, 22, 23, 24, 25, 26, 27, 28, 29, 30, 31, 32] (by decide +kernel) (by decide +kernel)) (goodIn_sub (fun _ h => List.mem_cons_of_mem _ (List.mem_append_right _ h)) (by decide +kernel))
set_option maxRecDepth 20000 in
theorem gL_fateOf_X5_fateOf : GoodIn wsL_fateOf (wsV RL 79 RX5 yX5_fateOf wsX5_fateOf) := goodIn_app (goodIn_of _ (by decide +kernel)) ggL_fateOf_X5_fateOf
theorem dL_fateOf_0 : decode cL_fateOf 0 = .ok (.aload_n 2, 1) := by decide +kernel
theorem dL_fateOf_1 : decode cL_fateOf 1 = .ok (.iconst 0, 1) := by decide +kernel
theorem dL_fateOf_2 : decode cL_fateOf 2 = .ok (.aload_n 0, 1) := by decide +kernel
theorem dL_fateOf_3 : decode cL_fateOf 3 = .ok (.iload_n 1, 1) := by decide +kernel
theorem dL_fateOf_4 : decode cL_fateOf 4 = .ok (.invokevirtual 79, 3) := by decide +kernel
theorem dL_fateOf_7 : decode cL_fateOf 7 = .ok (.i2l, 1) := by decide +kernel
theorem dL_fateOf_8 : decode cL_fateOf 8 = .ok (.lastore, 1) := by decide +kernel
theorem dL_fateOf_9 : decode cL_fateOf 9 = .ok (.goto 6, 3) := by decide +kernel
theorem dL_fateOf_12 : decode cL_fateOf 12 = .ok (.astore_n 3, 1) := by decide +kernel
theorem dL_fateOf_13 : decode cL_fateOf 13 = .ok (.iconst 1, 1) := by decide +kernel
theorem dL_fateOf_14 : decode cL_fateOf 14 = .ok (.ireturn, 1) := by decide +kernel
theorem dL_fateOf_15 : decode cL_fateOf 15 = .ok (.iconst 0, 1) := by decide +kernel
theorem dL_fateOf_16 : decode cL_fateOf 16 = .ok (.ireturn, 1) := by decide +kernel
set_option maxRecDepth 20000 in
theorem ggL_count_X5_count : GoodIn wsL_count wsX5_count := goodIn_ca (goodIn_r _ [6, 7, 8, 9, 10, 11, 5, 12, 13, 14, 15, 16, 17, 18, 19, 20, 21, 22, 23, 24, 25, 26, 27, 28, 29, 30, 31] (by decide +kernel) (by decide +kernel)) (goodIn_sub (fun _ h => List.mem_cons_of_mem _ (List.mem_append_right _ h)) (by decide +kernel))
set_option maxRecDepth 20000 in
theorem gL_count_X5_count : GoodIn wsL_count (wsV RL 82 RX5 yX5_count wsX5_count) := goodIn_app (goodIn_of _ (by decide +kernel)) ggL_count_X5_count
theorem dL_count_0 : decode cL_count 0 = .ok (.aload_n 2, 1) := by decide +kernel
theorem dL_count_1 : decode cL_count 1 = .ok (.iconst 0, 1) := by decide +kernel
theorem dL_count_2 : decode cL_count 2 = .ok (.aload_n 0, 1) := by decide +kernel
theorem dL_count_3 : decode cL_count 3 = .ok (.iload_n 1, 1) := by decide +kernel
theorem dL_count_4 : decode cL_count 4 = .ok (.invokevirtual 82, 3) := by decide +kernel
theorem dL_count_7 : decode cL_count 7 = .ok (.i2l, 1) := by decide +kernel
theorem dL_count_8 : decode cL_count 8 = .ok (.lastore, 1) := by decide +kernel
theorem dL_count_9 : decode cL_count 9 = .ok (.goto 6, 3) := by decide +kernel
theorem dL_count_12 : decode cL_count 12 = .ok (.astore_n 3, 1) := by decide +kernel
theorem dL_count_13 : decode cL_count 13 = .ok (.iconst 1, 1) := by decide +kernel
theorem dL_count_14 : decode cL_count 14 = .ok (.ireturn, 1) := by decide +kernel
theorem dL_count_15 : decode cL_count 15 = .ok (.iconst 0, 1) := by decide +kernel
theorem dL_count_16 : decode cL_count 16 = .ok (.ireturn, 1) := by decide +kernel
set_option maxRecDepth 20000 in
theorem ggL_targetsOf_X5_targetsOf : GoodIn wsL_targetsOf wsX5_targetsOf := goodIn_ca (goodIn_r _ [6, 7, 8, 9, 10, 11, 12, 13, 14, 15, 16, 17, 18, 19, 20, 21, 22, 23, 24, 25, 26, 27, 28, 29, 30, 31, 32] (by decide +kernel) (by decide +kernel)) (goodIn_sub (fun _ h => List.mem_cons_of_mem _ (List.mem_append_right _ h)) (by decide +kernel))
set_option maxRecDepth 20000 in
theorem gL_targetsOf_X5_targetsOf : GoodIn wsL_targetsOf (wsV RL 85 RX5 yX5_targetsOf wsX5_targetsOf) := goodIn_app (goodIn_of _ (by decide +kernel)) ggL_targetsOf_X5_targetsOf
theorem dL_targetsOf_0 : decode cL_targetsOf 0 = .ok (.aload_n 2, 1) := by decide +kernel
theorem dL_targetsOf_1 : decode cL_targetsOf 1 = .ok (.iconst 0, 1) := by decide +kernel
theorem dL_targetsOf_2 : decode cL_targetsOf 2 = .ok (.aload_n 0, 1) := by decide +kernel
theorem dL_targetsOf_3 : decode cL_targetsOf 3 = .ok (.iload_n 1, 1) := by decide +kernel
theorem dL_targetsOf_4 : decode cL_targetsOf 4 = .ok (.invokevirtual 85, 3) := by decide +kernel
theorem dL_targetsOf_7 : decode cL_targetsOf 7 = .ok (.i2l, 1) := by decide +kernel
theorem dL_targetsOf_8 : decode cL_targetsOf 8 = .ok (.lastore, 1) := by decide +kernel
theorem dL_targetsOf_9 : decode cL_targetsOf 9 = .ok (.goto 6, 3) := by decide +kernel
theorem dL_targetsOf_12 : decode cL_targetsOf 12 = .ok (.astore_n 3, 1) := by decide +kernel
theorem dL_targetsOf_13 : decode cL_targetsOf 13 = .ok (.iconst 1, 1) := by decide +kernel
theorem dL_targetsOf_14 : decode cL_targetsOf 14 = .ok (.ireturn, 1) := by decide +kernel
theorem dL_targetsOf_15 : decode cL_targetsOf 15 = .ok (.iconst 0, 1) := by decide +kernel
theorem dL_targetsOf_16 : decode cL_targetsOf 16 = .ok (.ireturn, 1) := by decide +kernel
