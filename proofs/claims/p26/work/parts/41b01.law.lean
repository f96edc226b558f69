set_option maxRecDepth 20000 in
theorem ggL_blockBy_X4_block : GoodIn wsL_blockBy wsX4_block := goodIn_ca (goodIn_ca (goodIn_r _ [7, 8, 9, 10, 11, 12, 13, 14, 15, 16, 6, 17, 18, 19, 20, 21, 22, 23, 24, 25, 26, 27, 28, 29, 30, 31, 32, 33, 34, 35, 36, 37, 38, 39, 40, 41, 42, 43, 44, 45, 46, 47, 48, 49, 50, 51, 52, 53, 54, 55, 56, 57, 58, 59, 60, 61, 62, 63, 64, 65, 66, 67, 68, 69, 70, 71, 72, 73, 74, 75, 76, 77, 78] (by decide +kernel) (by decide +kernel)) (goodIn_sub (fun _ h => List.mem_cons_of_mem _ (List.mem_append_left _ (List.mem_append_right _ h))) (by decide +kernel))) (goodIn_sub (fun _ h => List.mem_cons_of_mem _ (List.mem_append_right _ h)) (by decide +kernel))
set_option maxRecDepth 20000 in
theorem gL_blockBy_X4_block : GoodIn wsL_blockBy (wsV RL 44 RX4 yX4_block wsX4_block) := goodIn_app (goodIn_of _ (by decide +kernel)) ggL_blockBy_X4_block
theorem dL_blockBy_0 : decode cL_blockBy 0 = .ok (.aload_n 0, 1) := by decide +kernel
theorem dL_blockBy_1 : decode cL_blockBy 1 = .ok (.iload_n 1, 1) := by decide +kernel
theorem dL_blockBy_2 : decode cL_blockBy 2 = .ok (.iload_n 2, 1) := by decide +kernel
theorem dL_blockBy_3 : decode cL_blockBy 3 = .ok (.invokevirtual 44, 3) := by decide +kernel
theorem dL_blockBy_6 : decode cL_blockBy 6 = .ok (.ireturn, 1) := by decide +kernel
theorem dL_blockBy_7 : decode cL_blockBy 7 = .ok (.astore_n 3, 1) := by decide +kernel
theorem dL_blockBy_8 : decode cL_blockBy 8 = .ok (.sipush (-3001), 3) := by decide +kernel
theorem dL_blockBy_11 : decode cL_blockBy 11 = .ok (.ireturn, 1) := by decide +kernel
theorem dL_blockBy_12 : decode cL_blockBy 12 = .ok (.astore_n 3, 1) := by decide +kernel
theorem dL_blockBy_13 : decode cL_blockBy 13 = .ok (.sipush (-3002), 3) := by decide +kernel
theorem dL_blockBy_16 : decode cL_blockBy 16 = .ok (.ireturn, 1) := by decide +kernel
set_option maxRecDepth 20000 in
theorem ggL_all_X4_value : GoodIn wsL_all wsX4_value := goodIn_ca (goodIn_r _ [6, 7, 8, 9, 10, 11, 12, 13, 14, 15, 16, 17, 18, 19, 20, 21, 22, 23, 24, 25, 26, 27, 28, 29, 30, 31, 32, 33, 34, 35, 36, 37, 38, 39, 40, 41, 42, 43, 44, 45, 46, 47, 48, 49, 50, 51, 52, 53, 54, 55, 56, 57, 58, 59, 60, 61, 62, 63, 64, 65, 66, 67, 68, 69, 70, 71, 72, 73] (by decide +kernel) (by decide +kernel)) (goodIn_sub (fun _ h => List.mem_cons_of_mem _ (List.mem_append_right _ h)) (by decide +kernel))
set_option maxRecDepth 20000 in
theorem gL_all_X4_value : GoodIn wsL_all (wsV RL 47 RX4 yX4_value wsX4_value) := goodIn_app (goodIn_of _ (by decide +kernel)) ggL_all_X4_value
theorem dL_all_0 : decode cL_all 0 = .ok (.aload_n 0, 1) := by decide +kernel
theorem dL_all_1 : decode cL_all 1 = .ok (.iload_n 1, 1) := by decide +kernel
theorem dL_all_2 : decode cL_all 2 = .ok (.invokevirtual 47, 3) := by decide +kernel
theorem dL_all_5 : decode cL_all 5 = .ok (.ireturn, 1) := by decide +kernel
theorem dL_all_6 : decode cL_all 6 = .ok (.astore_n 2, 1) := by decide +kernel
theorem dL_all_7 : decode cL_all 7 = .ok (.sipush (-3002), 3) := by decide +kernel
theorem dL_all_10 : decode cL_all 10 = .ok (.ireturn, 1) := by decide +kernel
set_option maxRecDepth 20000 in
theorem ggL_sent_X4_dispatch : GoodIn wsL_sent wsX4_dispatch := goodIn_ca (goodIn_ca (goodIn_r _ [7, 8, 9, 10, 11, 12, 13, 14, 15, 16, 17, 18, 19, 20, 21, 22, 23, 24, 25, 26, 27, 28, 29, 30, 31, 32, 33, 34, 35, 36, 37, 38, 39, 40, 41, 42] (by decide +kernel) (by decide +kernel)) (goodIn_sub (fun _ h => List.mem_cons_of_mem _ (List.mem_append_left _ (List.mem_append_right _ h))) (by decide +kernel))) (goodIn_sub (fun _ h => List.mem_cons_of_mem _ (List.mem_append_right _ h)) (by decide +kernel))
set_option maxRecDepth 20000 in
theorem gL_sent_X4_dispatch : GoodIn wsL_sent (wsV RL 50 RX4 yX4_dispatch wsX4_dispatch) := goodIn_app (goodIn_of _ (by decide +kernel)) ggL_sent_X4_dispatch
theorem dL_sent_0 : decode cL_sent 0 = .ok (.aload_n 0, 1) := by decide +kernel
theorem dL_sent_1 : decode cL_sent 1 = .ok (.iload_n 1, 1) := by decide +kernel
theorem dL_sent_2 : decode cL_sent 2 = .ok (.iload_n 2, 1) := by decide +kernel
theorem dL_sent_3 : decode cL_sent 3 = .ok (.invokevirtual 50, 3) := by decide +kernel
theorem dL_sent_6 : decode cL_sent 6 = .ok (.ireturn, 1) := by decide +kernel
theorem dL_sent_7 : decode cL_sent 7 = .ok (.astore_n 3, 1) := by decide +kernel
theorem dL_sent_8 : decode cL_sent 8 = .ok (.sipush (-3001), 3) := by decide +kernel
theorem dL_sent_11 : decode cL_sent 11 = .ok (.ireturn, 1) := by decide +kernel
theorem dL_sent_12 : decode cL_sent 12 = .ok (.astore_n 3, 1) := by decide +kernel
theorem dL_sent_13 : decode cL_sent 13 = .ok (.sipush (-3002), 3) := by decide +kernel
theorem dL_sent_16 : decode cL_sent 16 = .ok (.ireturn, 1) := by decide +kernel
set_option maxRecDepth 20000 in
theorem ggL_reason_X4_why : GoodIn wsL_reason wsX4_why := goodIn_ca (goodIn_r _ [6, 7, 8, 9, 10, 11, 5, 12, 13, 14, 15, 16, 17, 18, 19, 20, 21, 22, 23, 24, 25, 26, 27, 28, 29, 30, 31, 32, 33, 34, 35, 36, 37, 38, 39, 40, 41, 42, 43, 44, 45, 46, 47, 48, 49, 50, 51, 52, 53, 54, 55, 56, 57, 58, 59, 60, 61, 62, 63, 64, 65, 66, 67, 68, 69, 70, 71, 72, 73, 74, 75, 76, 77, 78, 79, 80, 81, 82, 83, 84, 85, 86, 87, 88, 89, 90, 91, 92, 93, 94] (by decide +kernel) (by decide +kernel)) (goodIn_sub (fun _ h => List.mem_cons_of_mem _ (List.mem_append_right _ h)) (by decide +kernel))
set_option maxRecDepth 20000 in
theorem gL_reason_X4_why : GoodIn wsL_reason (wsV RL 53 RX4 yX4_why wsX4_why) := goodIn_app (goodIn_of _ (by decide +kernel)) ggL_reason_X4_why
theorem dL_reason_0 : decode cL_reason 0 = .ok (.aload_n 0, 1) := by decide +kernel
theorem dL_reason_1 : decode cL_reason 1 = .ok (.iload_n 1, 1) := by decide +kernel
theorem dL_reason_2 : decode cL_reason 2 = .ok (.invokevirtual 53, 3) := by decide +kernel
theorem dL_reason_5 : decode cL_reason 5 = .ok (.ireturn, 1) := by decide +kernel
theorem dL_reason_6 : decode cL_reason 6 = .ok (.astore_n 2, 1) := by decide +kernel
theorem dL_reason_7 : decode cL_reason 7 = .ok (.sipush (-3001), 3) := by decide +kernel
theorem dL_reason_10 : decode cL_reason 10 = .ok (.ireturn, 1) := by decide +kernel
set_option maxRecDepth 20000 in
theorem ggL_toStation_X4_ticksToStation : GoodIn wsL_toStation wsX4_ticksToStation := goodIn_ca (goodIn_r _ [6, 7, 8, 9, 10, 11, 12, 13, 5, 14, 15, 16, 17, 18, 19, 20, 21, 22, 23, 24, 25, 26, 27, 28, 29, 30, 31, 32, 33, 34, 35, 36, 37, 38, 39, 40, 41, 42, 43, 44, 45, 46, 47, 48, 49, 50, 51, 52, 53, 54, 55, 56, 57, 58, 59, 60, 61, 62, 63, 64, 65, 66, 67, 68, 69, 70, 71, 72, 73, 74, 75, 76, 77, 78, 79, 80, 81, 82, 83, 84, 85, 86, 87, 88, 89, 90, 91, 92, 93, 94, 95, 96, 97, 98, 99, 100, 101, 102, 103, 104, 105, 106, 107, 108, 109, 110, 111, 112, 113, 114, 115, 116, 117, 118, 119, 120, 121, 122, 123, 124, 125, 126, 127, 128, 129, 130, 131, 132, 133, 134, 135, 136, 137, 138, 139, 140, 141, 142, 143, 144, 145, 146, 147, 148, 149, 150, 151, 152, 153, 154, 155, 156, 157, 158, 159, 160, 161, 162, 163, 164, 165, 166, 167, 168, 169, 170, 171, 172, 173, 174, 175, 176, 177, 178, 179, 180, 181, 182, 183, 184, 185, 186, 187, 188, 189, 190, 191, 192, 193, 194, 195, 196, 197, 198, 199, 200] (by decide +kernel) (by decide +kernel)) (goodIn_sub (fun _ h => List.mem_cons_of_mem _ (List.mem_append_right _ h)) (by decide +kernel))
set_option maxRecDepth 20000 in
theorem gL_toStation_X4_ticksToStation : GoodIn wsL_toStation (wsV RL 56 RX4 yX4_ticksToStation wsX4_ticksToStation) := goodIn_app (goodIn_of _ (by decide +kernel)) ggL_toStation_X4_ticksToStation
theorem dL_toStation_0 : decode cL_toStation 0 = .ok (.aload_n 0, 1) := by decide +kernel
theorem dL_toStation_1 : decode cL_toStation 1 = .ok (.iload_n 1, 1) := by decide +kernel
theorem dL_toStation_2 : decode cL_toStation 2 = .ok (.invokevirtual 56, 3) := by decide +kernel
theorem dL_toStation_5 : decode cL_toStation 5 = .ok (.ireturn, 1) := by decide +kernel
theorem dL_toStation_6 : decode cL_toStation 6 = .ok (.astore_n 2, 1) := by decide +kernel
theorem dL_toStation_7 : decode cL_toStation 7 = .ok (.sipush (-3001), 3) := by decide +kernel
theorem dL_toStation_10 : decode cL_toStation 10 = .ok (.ireturn, 1) := by decide +kernel
set_option maxRecDepth 20000 in
theorem ggL_sentWith_X4_dispatchesWith : GoodIn wsL_sentWith wsX4_dispatchesWith := goodIn_ca (goodIn_r _ [6, 7, 8, 9, 10, 11, 12, 13, 14, 15, 16, 17, 18, 19, 20, 21, 22, 23, 24, 25, 26, 27, 28, 29, 30, 31, 32, 33, 34, 35, 36, 37, 38, 39, 40, 41, 42, 43, 44, 45, 46, 47, 48, 49, 50, 51, 52, 53, 54, 55, 56, 57, 58, 59, 60, 61, 62, 63, 64, 65, 66, 67, 68, 69, 70, 71, 72, 73, 74, 75, 76, 77, 78, 79, 80, 81, 82, 83, 84, 85, 86, 87, 88, 89, 90, 91, 92, 93, 94, 95, 96, 97, 98, 99, 100, 101, 102, 103, 104, 105, 106, 107, 108, 109, 110, 111, 112, 113, 114, 115, 116, 117, 118, 119, 120, 121, 122, 123, 124, 125, 126, 127, 128, 129, 130, 131, 132, 133, 134, 135, 136, 137, 138, 139, 140, 141, 142, 143, 144, 145, 146, 147, 148, 149, 150, 151, 152, 153, 154, 155, 156, 157, 158, 159, 160, 161, 162, 163, 164, 165, 166, 167, 168, 169, 170, 171, 172, 173, 174, 175, 176, 177, 178, 179, 180, 181, 182, 183, 184, 185, 186, 187, 188, 189, 190, 191, 192, 193, 194, 195, 196, 197] (by decide +kernel) (by decide +kernel)) (goodIn_sub (fun _ h => List.mem_cons_of_mem _ (List.mem_append_right _ h)) (by decide +kernel))
set_option maxRecDepth 20000 in
theorem gL_sentWith_X4_dispatchesWith : GoodIn wsL_sentWith (wsV RL 59 RX4 yX4_dispatchesWith wsX4_dispatchesWith) := goodIn_app (goodIn_of _ (by decide +kernel)) ggL_sentWith_X4_dispatchesWith
theorem dL_sentWith_0 : decode cL_sentWith 0 = .ok (.aload_n 0, 1) := by decide +kernel
theorem dL_sentWith_1 : decode cL_sentWith 1 = .ok (.iload_n 1, 1) := by decide +kernel
theorem dL_sentWith_2 : decode cL_sentWith 2 = .ok (.invokevirtual 59, 3) := by decide +kernel
theorem dL_sentWith_5 : decode cL_sentWith 5 = .ok (.ireturn, 1) := by decide +kernel
theorem dL_sentWith_6 : decode cL_sentWith 6 = .ok (.astore_n 2, 1) := by decide +kernel
theorem dL_sentWith_7 : decode cL_sentWith 7 = .ok (.sipush (-3002), 3) := by decide +kernel
theorem dL_sentWith_10 : decode cL_sentWith 10 = .ok (.ireturn, 1) := by decide +kernel
set_option maxRecDepth 20000 in
theorem ggL_least_X4_leastSquare : GoodIn wsL_least wsX4_leastSquare := goodIn_ca (goodIn_r _ [6, 7, 8, 9, 10, 11, 12, 5, 13, 14, 15, 16, 17, 18, 19, 20, 21, 22, 23, 24, 25, 26, 27, 28, 29, 30, 31, 32, 33, 34, 35, 36, 37, 38, 39, 40, 41, 42, 43, 44, 45, 46, 47, 48, 49, 50, 51, 52, 53, 54, 55, 56, 57, 58, 59, 60, 61, 62, 63, 64] (by decide +kernel) (by decide +kernel)) (goodIn_sub (fun _ h => List.mem_cons_of_mem _ (List.mem_append_right _ h)) (by decide +kernel))
set_option maxRecDepth 20000 in
theorem gL_least_X4_leastSquare : GoodIn wsL_least (wsV RL 62 RX4 yX4_leastSquare wsX4_leastSquare) := goodIn_app (goodIn_of _ (by decide +kernel)) ggL_least_X4_leastSquare
theorem dL_least_0 : decode cL_least 0 = .ok (.aload_n 0, 1) := by decide +kernel
theorem dL_least_1 : decode cL_least 1 = .ok (.iload_n 1, 1) := by decide +kernel
theorem dL_least_2 : decode cL_least 2 = .ok (.invokevirtual 62, 3) := by decide +kernel
theorem dL_least_5 : decode cL_least 5 = .ok (.ireturn, 1) := by decide +kernel
theorem dL_least_6 : decode cL_least 6 = .ok (.astore_n 2, 1) := by decide +kernel
theorem dL_least_7 : decode cL_least 7 = .ok (.sipush (-3001), 3) := by decide +kernel
theorem dL_least_10 : decode cL_least 10 = .ok (.ireturn, 1) := by decide +kernel
set_option maxRecDepth 20000 in
theorem ggL_typing_X4_append : GoodIn wsL_typing wsX4_append := goodIn_ca (goodIn_ca (goodIn_r _ [7, 8, 9, 10, 11, 12, 13, 14, 15, 16, 17, 18, 19, 20, 21, 22, 23, 24, 25, 26, 27] (by decide +kernel) (by decide +kernel)) (goodIn_sub (fun _ h => List.mem_cons_of_mem _ (List.mem_append_left _ (List.mem_append_right _ h))) (by decide +kernel))) (goodIn_sub (fun _ h => List.mem_cons_of_mem _ (List.mem_append_right _ h)) (by decide +kernel))
set_option maxRecDepth 20000 in
theorem gL_typing_X4_append : GoodIn wsL_typing (wsV RL 65 RX4 yX4_append wsX4_append) := goodIn_app (goodIn_of _ (by decide +kernel)) ggL_typing_X4_append
theorem dL_typing_0 : decode cL_typing 0 = .ok (.aload_n 0, 1) := by decide +kernel
theorem dL_typing_1 : decode cL_typing 1 = .ok (.iload_n 1, 1) := by decide +kernel
theorem dL_typing_2 : decode cL_typing 2 = .ok (.invokevirtual 65, 3) := by decide +kernel
theorem dL_typing_5 : decode cL_typing 5 = .ok (.ireturn, 1) := by decide +kernel
theorem dL_typing_6 : decode cL_typing 6 = .ok (.astore_n 2, 1) := by decide +kernel
theorem dL_typing_7 : decode cL_typing 7 = .ok (.sipush (-3002), 3) := by decide +kernel
theorem dL_typing_10 : decode cL_typing 10 = .ok (.ireturn, 1) := by decide +kernel
theorem dL_typing_11 : decode cL_typing 11 = .ok (.astore_n 2, 1) := by decide +kernel
theorem dL_typing_12 : decode cL_typing 12 = .ok (.sipush (-3003), 3) := by decide +kernel
theorem dL_typing_15 : decode cL_typing 15 = .ok (.ireturn, 1) := by decide +kernel
