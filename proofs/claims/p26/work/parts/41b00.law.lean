theorem gc_big {big a : List Cond} {y : MethodName} {b : ByteArray} {n : Nat} {r : Option FieldType} (h : Cond.code y b n r ∈ big) (ha : GoodIn big a) : GoodIn big (Cond.code y b n r :: a) := fun w hw => (List.mem_cons.mp hw).elim (fun e => by subst e; exact ⟨h, Or.inl rfl⟩) (ha w)
theorem dL_part_0 : decode cL_part 0 = .ok (.iload_n 0, 1) := by decide +kernel
theorem dL_part_1 : decode cL_part 1 = .ok (.ldc 7, 2) := by decide +kernel
theorem dL_part_3 : decode cL_part 3 = .ok (.iand, 1) := by decide +kernel
theorem dL_part_4 : decode cL_part 4 = .ok (.iload_n 1, 1) := by decide +kernel
theorem dL_part_5 : decode cL_part 5 = .ok (.irem, 1) := by decide +kernel
theorem dL_part_6 : decode cL_part 6 = .ok (.ireturn, 1) := by decide +kernel
theorem dL_take_0 : decode cL_take 0 = .ok (.aload_n 0, 1) := by decide +kernel
theorem dL_take_1 : decode cL_take 1 = .ok (.arraylength, 1) := by decide +kernel
theorem dL_take_2 : decode cL_take 2 = .ok (.ifCond .ne 13, 3) := by decide +kernel
theorem dL_take_5 : decode cL_take 5 = .ok (.sipush 7919, 3) := by decide +kernel
theorem dL_take_8 : decode cL_take 8 = .ok (.iload_n 1, 1) := by decide +kernel
theorem dL_take_9 : decode cL_take 9 = .ok (.imul, 1) := by decide +kernel
theorem dL_take_10 : decode cL_take 10 = .ok (.iconst 3, 1) := by decide +kernel
theorem dL_take_11 : decode cL_take 11 = .ok (.iadd, 1) := by decide +kernel
theorem dL_take_12 : decode cL_take 12 = .ok (.goto 27, 3) := by decide +kernel
theorem dL_take_15 : decode cL_take 15 = .ok (.aload_n 0, 1) := by decide +kernel
theorem dL_take_16 : decode cL_take 16 = .ok (.iload_n 1, 1) := by decide +kernel
theorem dL_take_17 : decode cL_take 17 = .ok (.aload_n 0, 1) := by decide +kernel
theorem dL_take_18 : decode cL_take 18 = .ok (.arraylength, 1) := by decide +kernel
theorem dL_take_19 : decode cL_take 19 = .ok (.irem, 1) := by decide +kernel
theorem dL_take_20 : decode cL_take 20 = .ok (.iaload, 1) := by decide +kernel
theorem dL_take_21 : decode cL_take 21 = .ok (.iload_n 1, 1) := by decide +kernel
theorem dL_take_22 : decode cL_take 22 = .ok (.bipush 7, 2) := by decide +kernel
theorem dL_take_24 : decode cL_take 24 = .ok (.irem, 1) := by decide +kernel
theorem dL_take_25 : decode cL_take 25 = .ok (.ishr, 1) := by decide +kernel
theorem dL_take_26 : decode cL_take 26 = .ok (.iload_n 1, 1) := by decide +kernel
theorem dL_take_27 : decode cL_take 27 = .ok (.aload_n 0, 1) := by decide +kernel
theorem dL_take_28 : decode cL_take 28 = .ok (.arraylength, 1) := by decide +kernel
theorem dL_take_29 : decode cL_take 29 = .ok (.idiv, 1) := by decide +kernel
theorem dL_take_30 : decode cL_take 30 = .ok (.bipush 31, 2) := by decide +kernel
theorem dL_take_32 : decode cL_take 32 = .ok (.imul, 1) := by decide +kernel
theorem dL_take_33 : decode cL_take 33 = .ok (.ixor, 1) := by decide +kernel
theorem dL_take_34 : decode cL_take 34 = .ok (.iload_n 1, 1) := by decide +kernel
theorem dL_take_35 : decode cL_take 35 = .ok (.ldc 8, 2) := by decide +kernel
theorem dL_take_37 : decode cL_take 37 = .ok (.imul, 1) := by decide +kernel
theorem dL_take_38 : decode cL_take 38 = .ok (.ixor, 1) := by decide +kernel
theorem dL_take_39 : decode cL_take 39 = .ok (.ireturn, 1) := by decide +kernel
set_option maxRecDepth 20000 in
theorem ggL_adding_X4_addTrain : GoodIn wsL_adding wsX4_addTrain := goodIn_ca (goodIn_ca (goodIn_r _ [7, 8, 9, 10, 11, 12, 13, 14, 6, 15, 16, 17, 18, 19, 20, 21, 22, 23, 24, 25, 26, 27, 28, 29, 30, 31, 32, 33, 34, 35, 36, 37, 38, 39, 40, 41, 42, 43, 44, 45, 46, 47, 48, 49, 50, 51, 52, 53, 54, 55, 56, 57, 58, 59, 60, 61, 62, 63, 64, 65, 66, 67, 68, 69, 70, 71, 72, 73, 74, 75, 76, 77, 78, 79, 80, 81, 82, 83, 84, 85, 86, 87, 88, 89, 90, 91, 92, 93, 94, 95, 96, 97, 98, 99, 100, 101, 102, 103, 104, 105, 106, 107, 108, 109, 110, 111, 112, 113, 114, 115, 116, 117, 118, 119, 120, 121, 122, 123, 124, 125, 126, 127, 128] (by decide +kernel) (by decide +kernel)) (goodIn_sub (fun _ h => List.mem_cons_of_mem _ (List.mem_append_left _ (List.mem_append_right _ h))) (by decide +kernel))) (goodIn_sub (fun _ h => List.mem_cons_of_mem _ (List.mem_append_right _ h)) (by decide +kernel))
set_option maxRecDepth 20000 in
theorem gL_adding_X4_addTrain : GoodIn wsL_adding (wsV RL 9 RX4 yX4_addTrain wsX4_addTrain) := goodIn_app (goodIn_of _ (by decide +kernel)) ggL_adding_X4_addTrain
theorem dL_adding_0 : decode cL_adding 0 = .ok (.aload_n 0, 1) := by decide +kernel
theorem dL_adding_1 : decode cL_adding 1 = .ok (.iload_n 1, 1) := by decide +kernel
theorem dL_adding_2 : decode cL_adding 2 = .ok (.invokevirtual 9, 3) := by decide +kernel
theorem dL_adding_5 : decode cL_adding 5 = .ok (.ireturn, 1) := by decide +kernel
theorem dL_adding_6 : decode cL_adding 6 = .ok (.astore_n 2, 1) := by decide +kernel
theorem dL_adding_7 : decode cL_adding 7 = .ok (.sipush (-3001), 3) := by decide +kernel
theorem dL_adding_10 : decode cL_adding 10 = .ok (.ireturn, 1) := by decide +kernel
theorem dL_adding_11 : decode cL_adding 11 = .ok (.astore_n 2, 1) := by decide +kernel
theorem dL_adding_12 : decode cL_adding 12 = .ok (.sipush (-3003), 3) := by decide +kernel
theorem dL_adding_15 : decode cL_adding 15 = .ok (.ireturn, 1) := by decide +kernel
set_option maxRecDepth 20000 in
theorem ggL_taking_X4_takeTrain : GoodIn wsL_taking wsX4_takeTrain := goodIn_ca (goodIn_r _ [6, 7, 8, 9, 10, 11, 12, 13, 5, 14, 15, 16, 17, 18, 19, 20, 21, 22, 23, 24, 25, 26, 27, 28, 29, 30, 31, 32, 33, 34, 35, 36, 37, 38, 39, 40, 41, 42, 43, 44, 45, 46, 47, 48, 49, 50, 51, 52, 53, 54, 55, 56, 57, 58, 59, 60, 61, 62, 63, 64, 65, 66, 67, 68, 69, 70, 71, 72, 73, 74, 75, 76, 77, 78, 79, 80, 81, 82, 83, 84, 85, 86, 87] (by decide +kernel) (by decide +kernel)) (goodIn_sub (fun _ h => List.mem_cons_of_mem _ (List.mem_append_right _ h)) (by decide +kernel))
set_option maxRecDepth 20000 in
theorem gL_taking_X4_takeTrain : GoodIn wsL_taking (wsV RL 19 RX4 yX4_takeTrain wsX4_takeTrain) := goodIn_app (goodIn_of _ (by decide +kernel)) ggL_taking_X4_takeTrain
theorem dL_taking_0 : decode cL_taking 0 = .ok (.aload_n 0, 1) := by decide +kernel
theorem dL_taking_1 : decode cL_taking 1 = .ok (.invokevirtual 19, 3) := by decide +kernel
theorem dL_taking_4 : decode cL_taking 4 = .ok (.ireturn, 1) := by decide +kernel
theorem dL_taking_5 : decode cL_taking 5 = .ok (.astore_n 1, 1) := by decide +kernel
theorem dL_taking_6 : decode cL_taking 6 = .ok (.sipush (-3003), 3) := by decide +kernel
theorem dL_taking_9 : decode cL_taking 9 = .ok (.ireturn, 1) := by decide +kernel
set_option maxRecDepth 20000 in
theorem ggL_rescuing_X4_rescue : GoodIn wsL_rescuing wsX4_rescue := goodIn_ca (goodIn_ca (goodIn_r _ [7, 8, 9, 10, 11, 12, 13, 14, 15, 16, 17, 18, 6, 19, 20, 21, 22, 23, 24, 25, 26, 27, 28, 29, 30, 31, 32, 33, 34, 35, 36, 37, 38, 39, 40, 41, 42, 43, 44, 45, 46, 47, 48, 49, 50, 51, 52, 53, 54, 55, 56, 57, 58, 59, 60, 61, 62, 63, 64, 65, 66, 67, 68, 69, 70, 71, 72, 73, 74, 75, 76, 77, 78, 79, 80, 81, 82, 83, 84, 85, 86, 87, 88, 89, 90, 91, 92, 93, 94, 95, 96, 97, 98, 99, 100, 101, 102, 103, 104, 105, 106, 107, 108, 109] (by decide +kernel) (by decide +kernel)) (goodIn_sub (fun _ h => List.mem_cons_of_mem _ (List.mem_append_left _ (List.mem_append_right _ h))) (by decide +kernel))) (goodIn_sub (fun _ h => List.mem_cons_of_mem _ (List.mem_append_right _ h)) (by decide +kernel))
set_option maxRecDepth 20000 in
theorem gL_rescuing_X4_rescue : GoodIn wsL_rescuing (wsV RL 23 RX4 yX4_rescue wsX4_rescue) := goodIn_app (goodIn_of _ (by decide +kernel)) ggL_rescuing_X4_rescue
theorem dL_rescuing_0 : decode cL_rescuing 0 = .ok (.aload_n 0, 1) := by decide +kernel
theorem dL_rescuing_1 : decode cL_rescuing 1 = .ok (.iload_n 1, 1) := by decide +kernel
theorem dL_rescuing_2 : decode cL_rescuing 2 = .ok (.invokevirtual 23, 3) := by decide +kernel
theorem dL_rescuing_5 : decode cL_rescuing 5 = .ok (.ireturn, 1) := by decide +kernel
theorem dL_rescuing_6 : decode cL_rescuing 6 = .ok (.astore_n 2, 1) := by decide +kernel
theorem dL_rescuing_7 : decode cL_rescuing 7 = .ok (.sipush (-3001), 3) := by decide +kernel
theorem dL_rescuing_10 : decode cL_rescuing 10 = .ok (.ireturn, 1) := by decide +kernel
theorem dL_rescuing_11 : decode cL_rescuing 11 = .ok (.astore_n 2, 1) := by decide +kernel
theorem dL_rescuing_12 : decode cL_rescuing 12 = .ok (.sipush (-3003), 3) := by decide +kernel
theorem dL_rescuing_15 : decode cL_rescuing 15 = .ok (.ireturn, 1) := by decide +kernel
set_option maxRecDepth 20000 in
theorem ggL_setting_X4_set : GoodIn wsL_setting wsX4_set := goodIn_ca (goodIn_ca (goodIn_r _ [7, 8, 9, 10, 11, 12, 13, 14, 15, 16, 17, 18, 6, 19, 20, 21, 22, 23, 24, 25, 26, 27, 28, 29, 30, 31, 32, 33, 34, 35, 36, 37, 38, 39, 40, 41, 42, 43, 44, 45, 46, 47, 48, 49, 50, 51, 52, 53, 54, 55, 56, 57, 58, 59, 60, 61, 62, 63, 64, 65, 66, 67, 68, 69, 70, 71, 72, 73, 74, 75, 76, 77, 78, 79, 80, 81, 82, 83, 84, 85, 86, 87, 88, 89, 90, 91, 92] (by decide +kernel) (by decide +kernel)) (goodIn_sub (fun _ h => List.mem_cons_of_mem _ (List.mem_append_left _ (List.mem_append_right _ h))) (by decide +kernel))) (goodIn_sub (fun _ h => List.mem_cons_of_mem _ (List.mem_append_right _ h)) (by decide +kernel))
set_option maxRecDepth 20000 in
theorem gL_setting_X4_set : GoodIn wsL_setting (wsV RL 26 RX4 yX4_set wsX4_set) := goodIn_app (goodIn_of _ (by decide +kernel)) ggL_setting_X4_set
theorem dL_setting_0 : decode cL_setting 0 = .ok (.aload_n 0, 1) := by decide +kernel
theorem dL_setting_1 : decode cL_setting 1 = .ok (.iload_n 1, 1) := by decide +kernel
theorem dL_setting_2 : decode cL_setting 2 = .ok (.iload_n 2, 1) := by decide +kernel
theorem dL_setting_3 : decode cL_setting 3 = .ok (.invokevirtual 26, 3) := by decide +kernel
theorem dL_setting_6 : decode cL_setting 6 = .ok (.ireturn, 1) := by decide +kernel
theorem dL_setting_7 : decode cL_setting 7 = .ok (.astore_n 3, 1) := by decide +kernel
theorem dL_setting_8 : decode cL_setting 8 = .ok (.sipush (-3001), 3) := by decide +kernel
theorem dL_setting_11 : decode cL_setting 11 = .ok (.ireturn, 1) := by decide +kernel
theorem dL_setting_12 : decode cL_setting 12 = .ok (.astore_n 3, 1) := by decide +kernel
theorem dL_setting_13 : decode cL_setting 13 = .ok (.sipush (-3002), 3) := by decide +kernel
theorem dL_setting_16 : decode cL_setting 16 = .ok (.ireturn, 1) := by decide +kernel
set_option maxRecDepth 20000 in
theorem ggL_heighten_X4_setHeight : GoodIn wsL_heighten wsX4_setHeight := goodIn_ca (goodIn_ca (goodIn_r _ [7, 8, 9, 10, 11, 12, 13, 14, 15, 6, 16, 17, 18, 19, 20, 21, 22, 23, 24, 25, 26, 27, 28, 29, 30, 31, 32, 33, 34, 35, 36, 37, 38, 39, 40, 41, 42, 43, 44, 45, 46, 47, 48, 49, 50, 51, 52, 53, 54, 55, 56, 57, 58, 59, 60, 61, 62, 63, 64, 65, 66, 67, 68, 69, 70, 71, 72, 73, 74, 75, 76, 77, 78, 79, 80, 81, 82, 83, 84, 85, 86, 87, 88, 89, 90, 91, 92, 93, 94, 95, 96] (by decide +kernel) (by decide +kernel)) (goodIn_sub (fun _ h => List.mem_cons_of_mem _ (List.mem_append_left _ (List.mem_append_right _ h))) (by decide +kernel))) (goodIn_sub (fun _ h => List.mem_cons_of_mem _ (List.mem_append_right _ h)) (by decide +kernel))
set_option maxRecDepth 20000 in
theorem gL_heighten_X4_setHeight : GoodIn wsL_heighten (wsV RL 32 RX4 yX4_setHeight wsX4_setHeight) := goodIn_app (goodIn_of _ (by decide +kernel)) ggL_heighten_X4_setHeight
theorem dL_heighten_0 : decode cL_heighten 0 = .ok (.aload_n 0, 1) := by decide +kernel
theorem dL_heighten_1 : decode cL_heighten 1 = .ok (.iload_n 1, 1) := by decide +kernel
theorem dL_heighten_2 : decode cL_heighten 2 = .ok (.iload_n 2, 1) := by decide +kernel
theorem dL_heighten_3 : decode cL_heighten 3 = .ok (.invokevirtual 32, 3) := by decide +kernel
theorem dL_heighten_6 : decode cL_heighten 6 = .ok (.ireturn, 1) := by decide +kernel
theorem dL_heighten_7 : decode cL_heighten 7 = .ok (.astore_n 3, 1) := by decide +kernel
theorem dL_heighten_8 : decode cL_heighten 8 = .ok (.sipush (-3001), 3) := by decide +kernel
theorem dL_heighten_11 : decode cL_heighten 11 = .ok (.ireturn, 1) := by decide +kernel
theorem dL_heighten_12 : decode cL_heighten 12 = .ok (.astore_n 3, 1) := by decide +kernel
theorem dL_heighten_13 : decode cL_heighten 13 = .ok (.sipush (-3002), 3) := by decide +kernel
theorem dL_heighten_16 : decode cL_heighten 16 = .ok (.ireturn, 1) := by decide +kernel
set_option maxRecDepth 20000 in
theorem ggL_passing_X4_pass : GoodIn wsL_passing wsX4_pass := goodIn_ca (goodIn_ca (goodIn_r _ [7, 8, 9, 10, 11, 12, 13, 14, 15, 16, 17, 18, 6, 19, 20, 21, 22, 23, 24, 25, 26, 27, 28, 29, 30, 31, 32, 33, 34, 35, 36, 37, 38, 39, 40, 41, 42, 43, 44, 45, 46, 47, 48, 49, 50, 51, 52, 53, 54, 55, 56, 57, 58, 59, 60, 61, 62, 63, 64, 65, 66, 67, 68, 69, 70, 71, 72, 73, 74, 75, 76, 77, 78, 79, 80, 81, 82, 83, 84, 85, 86, 87, 88, 89, 90, 91, 92, 93, 94, 95, 96, 97, 98, 99, 100, 101, 102, 103, 104, 105, 106, 107, 108, 109, 110, 111, 112, 113, 114, 115, 116, 117, 118, 119, 120, 121, 122, 123, 124, 125, 126, 127, 128, 129, 130, 131, 132, 133, 134, 135, 136, 137, 138, 139, 140, 141, 142, 143, 144, 145, 146, 147, 148, 149, 150, 151, 152, 153, 154, 155, 156, 157, 158, 159, 160, 161, 162, 163, 164, 165, 166, 167, 168, 169, 170, 171, 172, 173, 174, 175, 176, 177, 178, 179, 180, 181, 182, 183, 184, 185, 186, 187, 188, 189, 190, 191, 192, 193, 194, 195, 196, 197, 198, 199, 200, 201, 202, 203, 204] (by decide +kernel) (by decide +kernel)) (goodIn_sub (fun _ h => List.mem_cons_of_mem _ (List.mem_append_left _ (List.mem_append_right _ h))) (by decide +kernel))) (goodIn_sub (fun _ h => List.mem_cons_of_mem _ (List.mem_append_right _ h)) (by decide +kernel))
set_option maxRecDepth 20000 in
theorem gL_passing_X4_pass : GoodIn wsL_passing (wsV RL 35 RX4 yX4_pass wsX4_pass) := goodIn_app (goodIn_of _ (by decide +kernel)) ggL_passing_X4_pass
theorem dL_passing_0 : decode cL_passing 0 = .ok (.aload_n 0, 1) := by decide +kernel
theorem dL_passing_1 : decode cL_passing 1 = .ok (.iload_n 1, 1) := by decide +kernel
theorem dL_passing_2 : decode cL_passing 2 = .ok (.invokevirtual 35, 3) := by decide +kernel
theorem dL_passing_5 : decode cL_passing 5 = .ok (.ireturn, 1) := by decide +kernel
theorem dL_passing_6 : decode cL_passing 6 = .ok (.astore_n 2, 1) := by decide +kernel
theorem dL_passing_7 : decode cL_passing 7 = .ok (.sipush (-3002), 3) := by decide +kernel
theorem dL_passing_10 : decode cL_passing 10 = .ok (.ireturn, 1) := by decide +kernel
theorem dL_passing_11 : decode cL_passing 11 = .ok (.astore_n 2, 1) := by decide +kernel
theorem dL_passing_12 : decode cL_passing 12 = .ok (.sipush (-3003), 3) := by decide +kernel
theorem dL_passing_15 : decode cL_passing 15 = .ok (.ireturn, 1) := by decide +kernel
set_option maxRecDepth 20000 in
theorem ggL_trainBy_X4_train : GoodIn wsL_trainBy wsX4_train := goodIn_ca (goodIn_ca (goodIn_r _ [7, 8, 9, 10, 11, 12, 13, 14, 15, 16, 17, 18, 19, 20, 21, 22, 6, 23, 24, 25, 26, 27, 28, 29, 30, 31, 32, 33, 34, 35, 36, 37, 38, 39, 40, 41, 42, 43, 44, 45, 46, 47, 48, 49, 50, 51, 52, 53, 54, 55, 56, 57, 58, 59, 60, 61, 62, 63, 64, 65, 66, 67, 68] (by decide +kernel) (by decide +kernel)) (goodIn_sub (fun _ h => List.mem_cons_of_mem _ (List.mem_append_left _ (List.mem_append_right _ h))) (by decide +kernel))) (goodIn_sub (fun _ h => List.mem_cons_of_mem _ (List.mem_append_right _ h)) (by decide +kernel))
set_option maxRecDepth 20000 in
theorem gL_trainBy_X4_train : GoodIn wsL_trainBy (wsV RL 38 RX4 yX4_train wsX4_train) := goodIn_app (goodIn_of _ (by decide +kernel)) ggL_trainBy_X4_train
theorem dL_trainBy_0 : decode cL_trainBy 0 = .ok (.aload_n 0, 1) := by decide +kernel
theorem dL_trainBy_1 : decode cL_trainBy 1 = .ok (.iload_n 1, 1) := by decide +kernel
theorem dL_trainBy_2 : decode cL_trainBy 2 = .ok (.iload_n 2, 1) := by decide +kernel
theorem dL_trainBy_3 : decode cL_trainBy 3 = .ok (.invokevirtual 38, 3) := by decide +kernel
theorem dL_trainBy_6 : decode cL_trainBy 6 = .ok (.ireturn, 1) := by decide +kernel
theorem dL_trainBy_7 : decode cL_trainBy 7 = .ok (.astore_n 3, 1) := by decide +kernel
theorem dL_trainBy_8 : decode cL_trainBy 8 = .ok (.sipush (-3001), 3) := by decide +kernel
theorem dL_trainBy_11 : decode cL_trainBy 11 = .ok (.ireturn, 1) := by decide +kernel
theorem dL_trainBy_12 : decode cL_trainBy 12 = .ok (.astore_n 3, 1) := by decide +kernel
theorem dL_trainBy_13 : decode cL_trainBy 13 = .ok (.sipush (-3002), 3) := by decide +kernel
theorem dL_trainBy_16 : decode cL_trainBy 16 = .ok (.ireturn, 1) := by decide +kernel
set_option maxRecDepth 20000 in
theorem ggL_cellBy_X4_cell : GoodIn wsL_cellBy wsX4_cell := goodIn_ca (goodIn_ca (goodIn_r _ [7, 8, 9, 10, 11, 12, 13, 14, 15, 16, 17, 6, 18, 19, 20, 21, 22, 23, 24, 25, 26, 27, 28, 29, 30, 31, 32, 33, 34, 35, 36, 37, 38, 39, 40, 41, 42, 43, 44, 45, 46, 47, 48, 49, 50, 51, 52, 53, 54, 55, 56, 57] (by decide +kernel) (by decide +kernel)) (goodIn_sub (fun _ h => List.mem_cons_of_mem _ (List.mem_append_left _ (List.mem_append_right _ h))) (by decide +kernel))) (goodIn_sub (fun _ h => List.mem_cons_of_mem _ (List.mem_append_right _ h)) (by decide +kernel))
set_option maxRecDepth 20000 in
theorem gL_cellBy_X4_cell : GoodIn wsL_cellBy (wsV RL 41 RX4 yX4_cell wsX4_cell) := goodIn_app (goodIn_of _ (by decide +kernel)) ggL_cellBy_X4_cell
theorem dL_cellBy_0 : decode cL_cellBy 0 = .ok (.aload_n 0, 1) := by decide +kernel
theorem dL_cellBy_1 : decode cL_cellBy 1 = .ok (.iload_n 1, 1) := by decide +kernel
theorem dL_cellBy_2 : decode cL_cellBy 2 = .ok (.iload_n 2, 1) := by decide +kernel
theorem dL_cellBy_3 : decode cL_cellBy 3 = .ok (.invokevirtual 41, 3) := by decide +kernel
theorem dL_cellBy_6 : decode cL_cellBy 6 = .ok (.ireturn, 1) := by decide +kernel
theorem dL_cellBy_7 : decode cL_cellBy 7 = .ok (.astore_n 3, 1) := by decide +kernel
theorem dL_cellBy_8 : decode cL_cellBy 8 = .ok (.sipush (-3001), 3) := by decide +kernel
theorem dL_cellBy_11 : decode cL_cellBy 11 = .ok (.ireturn, 1) := by decide +kernel
theorem dL_cellBy_12 : decode cL_cellBy 12 = .ok (.astore_n 3, 1) := by decide +kernel
theorem dL_cellBy_13 : decode cL_cellBy 13 = .ok (.sipush (-3002), 3) := by decide +kernel
theorem dL_cellBy_16 : decode cL_cellBy 16 = .ok (.ireturn, 1) := by decide +kernel
