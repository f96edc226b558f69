set_option maxRecDepth 20000 in
theorem ggL_undoing_X4_undo : GoodIn wsL_undoing wsX4_undo := goodIn_ca (goodIn_r _ [6, 7, 8, 9, 10, 11, 12, 13, 14, 15, 16, 17, 18, 19, 20, 21, 22, 23, 24, 25, 26, 27, 28, 29, 30, 31, 32, 33, 34, 35, 36, 37, 38, 39, 40, 41, 42, 43, 44, 45, 46, 47, 48, 49, 50, 51, 52, 53, 54, 55, 56, 57, 58, 59, 60, 61, 62, 63, 64, 65, 66, 67, 68, 69, 70, 71, 72, 73, 74, 75, 76, 77, 78, 79, 80, 81, 82] (by decide +kernel) (by decide +kernel)) (goodIn_sub (fun _ h => List.mem_cons_of_mem _ (List.mem_append_right _ h)) (by decide +kernel))
set_option maxRecDepth 20000 in
theorem gL_undoing_X4_undo : GoodIn wsL_undoing (wsV RL 68 RX4 yX4_undo wsX4_undo) := goodIn_app (goodIn_of _ (by decide +kernel)) ggL_undoing_X4_undo
theorem dL_undoing_0 : decode cL_undoing 0 = .ok (.aload_n 0, 1) := by decide +kernel
theorem dL_undoing_1 : decode cL_undoing 1 = .ok (.invokevirtual 68, 3) := by decide +kernel
theorem dL_undoing_4 : decode cL_undoing 4 = .ok (.ireturn, 1) := by decide +kernel
theorem dL_undoing_5 : decode cL_undoing 5 = .ok (.astore_n 1, 1) := by decide +kernel
theorem dL_undoing_6 : decode cL_undoing 6 = .ok (.sipush (-3003), 3) := by decide +kernel
theorem dL_undoing_9 : decode cL_undoing 9 = .ok (.ireturn, 1) := by decide +kernel
theorem dL_mixed_0 : decode cL_mixed 0 = .ok (.ldc2_w 71, 3) := by decide +kernel
theorem dL_mixed_3 : decode cL_mixed 3 = .ok (.lload_n 0, 1) := by decide +kernel
theorem dL_mixed_4 : decode cL_mixed 4 = .ok (.lmul, 1) := by decide +kernel
theorem dL_mixed_5 : decode cL_mixed 5 = .ok (.lload_n 2, 1) := by decide +kernel
theorem dL_mixed_6 : decode cL_mixed 6 = .ok (.ladd, 1) := by decide +kernel
theorem dL_mixed_7 : decode cL_mixed 7 = .ok (.lreturn, 1) := by decide +kernel
set_option maxRecDepth 20000 in
theorem ggL_from_L_all : GoodIn wsL_from wsL_all := goodIn_ca (goodIn_r _ [4, 5, 6, 7, 8, 9, 10, 11, 12, 13, 14, 15, 16, 17, 18, 19, 20, 21, 22, 23, 24, 25, 26, 27, 28, 29, 30, 31, 32, 33, 34, 35, 36, 37, 38, 39, 40, 41, 42, 43, 44, 45, 46, 47, 48, 49, 287, 288, 289, 290, 291, 292, 293, 294, 295, 296, 297, 298, 299, 300, 301, 302, 303, 304, 305, 306, 307, 308, 309, 310, 311, 312, 313, 314] (by decide +kernel) (by decide +kernel)) (goodIn_sub (fun _ h => List.mem_cons_of_mem _ (List.mem_append_left _ (List.mem_append_right _ h))) (by decide +kernel))
set_option maxRecDepth 20000 in
theorem gL_from_L_all : GoodIn wsL_from (va_wsS RL 73 yL_all wsL_all) := goodIn_app (goodIn_of _ (by decide +kernel)) ggL_from_L_all
set_option maxRecDepth 20000 in
theorem ggL_from_L_mixed : GoodIn wsL_from wsL_mixed := goodIn_r _ [52, 53] (by decide +kernel) (by decide +kernel)
set_option maxRecDepth 20000 in
theorem gL_from_L_mixed : GoodIn wsL_from (va_wsS RL 79 yL_mixed wsL_mixed) := goodIn_app (goodIn_of _ (by decide +kernel)) ggL_from_L_mixed
set_option maxRecDepth 20000 in
theorem ggL_from_L_cellBy : GoodIn wsL_from wsL_cellBy := goodIn_ca (goodIn_ca (goodIn_r _ [56, 57, 5, 58, 59, 60, 9, 61, 11, 12, 13, 14, 62, 63, 64, 65, 66, 67, 68, 69, 70, 15, 71, 72, 73, 24, 74, 36, 37, 75, 287, 288, 289, 290, 291, 292, 293, 294, 295, 296, 297, 298, 299, 300, 301, 302, 303, 304, 305, 306, 307, 308, 309, 310, 311, 312, 313, 314] (by decide +kernel) (by decide +kernel)) (goodIn_sub (fun _ h => List.mem_cons_of_mem _ (List.mem_append_left _ (List.mem_append_right _ h))) (by decide +kernel))) (goodIn_sub (fun _ h => List.mem_cons_of_mem _ (List.mem_append_right _ h)) (by decide +kernel))
set_option maxRecDepth 20000 in
theorem gL_from_L_cellBy : GoodIn wsL_from (va_wsS RL 83 yL_cellBy wsL_cellBy) := goodIn_app (goodIn_of _ (by decide +kernel)) ggL_from_L_cellBy
set_option maxRecDepth 20000 in
theorem ggL_from_L_blockBy : GoodIn wsL_from wsL_blockBy := goodIn_ca (goodIn_ca (goodIn_r _ [78, 57, 5, 79, 80, 81, 9, 82, 11, 12, 13, 14, 83, 84, 85, 86, 87, 88, 69, 70, 16, 89, 90, 91, 42, 92, 93, 94, 95, 96, 97, 98, 99, 100, 101, 102, 44, 103, 104, 105, 106, 107, 108, 109, 24, 110, 36, 111, 112, 37, 75, 287, 288, 289, 290, 291, 292, 293, 294, 295, 296, 297, 298, 299, 300, 301, 302, 303, 304, 305, 306, 307, 308, 309, 310, 311, 312, 313, 314] (by decide +kernel) (by decide +kernel)) (goodIn_sub (fun _ h => List.mem_cons_of_mem _ (List.mem_append_left _ (List.mem_append_right _ h))) (by decide +kernel))) (goodIn_sub (fun _ h => List.mem_cons_of_mem _ (List.mem_append_right _ h)) (by decide +kernel))
set_option maxRecDepth 20000 in
theorem gL_from_L_blockBy : GoodIn wsL_from (va_wsS RL 87 yL_blockBy wsL_blockBy) := goodIn_app (goodIn_of _ (by decide +kernel)) ggL_from_L_blockBy
set_option maxRecDepth 20000 in
theorem ggL_from_L_trainBy : GoodIn wsL_from wsL_trainBy := goodIn_ca (goodIn_ca (goodIn_r _ [115, 57, 5, 116, 117, 118, 9, 119, 11, 12, 13, 120, 121, 122, 123, 124, 125, 126, 127, 128, 129, 130, 131, 132, 69, 70, 17, 133, 134, 135, 24, 136, 111, 112, 75, 137, 138, 139, 140, 141, 142, 287, 288, 289, 290, 291, 292, 293, 294, 295, 296, 297, 298, 299, 300, 307, 308, 309, 310, 311, 312, 313, 314, 301, 302, 303, 304, 305, 306] (by decide +kernel) (by decide +kernel)) (goodIn_sub (fun _ h => List.mem_cons_of_mem _ (List.mem_append_left _ (List.mem_append_right _ h))) (by decide +kernel))) (goodIn_sub (fun _ h => List.mem_cons_of_mem _ (List.mem_append_right _ h)) (by decide +kernel))
set_option maxRecDepth 20000 in
theorem gL_from_L_trainBy : GoodIn wsL_from (va_wsS RL 90 yL_trainBy wsL_trainBy) := goodIn_app (goodIn_of _ (by decide +kernel)) ggL_from_L_trainBy
set_option maxRecDepth 20000 in
theorem ggL_from_L_reason : GoodIn wsL_from wsL_reason := goodIn_ca (goodIn_r _ [145, 57, 146, 147, 148, 9, 149, 13, 120, 129, 130, 131, 132, 69, 70, 17, 150, 151, 152, 24, 153, 38, 111, 154, 142, 26, 155, 156, 134, 135, 136, 112, 75, 157, 158, 159, 42, 160, 98, 161, 162, 163, 164, 37, 165, 94, 95, 96, 97, 166, 72, 73, 74, 36, 167, 108, 109, 110, 168, 22, 23, 25, 27, 28, 29, 30, 31, 287, 288, 289, 290, 291, 292, 293, 294, 295, 296, 297, 298, 299, 300, 307, 308, 309, 310, 311, 312, 313, 314, 301, 302, 303, 304, 305, 306] (by decide +kernel) (by decide +kernel)) (goodIn_sub (fun _ h => List.mem_cons_of_mem _ (List.mem_append_right _ h)) (by decide +kernel))
set_option maxRecDepth 20000 in
theorem gL_from_L_reason : GoodIn wsL_from (va_wsS RL 93 yL_reason wsL_reason) := goodIn_app (goodIn_of _ (by decide +kernel)) ggL_from_L_reason
set_option maxRecDepth 20000 in
theorem ggL_from_L_sent : GoodIn wsL_from wsL_sent := goodIn_ca (goodIn_ca (goodIn_r _ [171, 57, 5, 172, 173, 174, 9, 175, 69, 70, 11, 12, 13, 176, 177, 178, 179, 180, 24, 181, 26, 182, 183, 48, 184, 185, 29, 30, 31, 287, 288, 289, 290, 291, 292, 293, 294, 295, 296, 297, 298, 299, 300] (by decide +kernel) (by decide +kernel)) (goodIn_sub (fun _ h => List.mem_cons_of_mem _ (List.mem_append_right _ h)) (by decide +kernel))) (goodIn_sub (fun _ h => List.mem_cons_of_mem _ (List.mem_append_left _ (List.mem_append_right _ h))) (by decide +kernel))
set_option maxRecDepth 20000 in
theorem gL_from_L_sent : GoodIn wsL_from (va_wsS RL 96 yL_sent wsL_sent) := goodIn_app (goodIn_of _ (by decide +kernel)) ggL_from_L_sent
