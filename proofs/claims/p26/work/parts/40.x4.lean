set_option maxRecDepth 20000 in
theorem ggX4_init_X0_init : GoodIn wsX4_init wsX0_init := goodIn_r _ [17, 18, 2, 3, 19, 20, 21, 22, 23, 24, 25, 26, 27, 28, 29, 30, 31, 32, 33, 34, 35, 36, 37, 38, 39, 40, 41, 42, 43, 44, 45, 46, 47, 48, 49, 50, 51, 52, 53, 54, 55, 56, 57, 58, 59, 60, 156, 157, 158, 159, 160, 161, 140, 141, 142, 143, 144, 145, 146, 147, 148, 162, 163, 164, 165, 166, 167, 168, 169] (by decide +kernel) (by decide +kernel)
set_option maxRecDepth 20000 in
theorem gX4_init_X0_init : GoodIn wsX4_init (wsX0_init) := ggX4_init_X0_init
set_option maxRecDepth 20000 in
theorem ggX4_init_X2_init : GoodIn wsX4_init wsX2_init := goodIn_r _ [62, 63, 2, 3, 32, 64, 65, 154, 155] (by decide +kernel) (by decide +kernel)
set_option maxRecDepth 20000 in
theorem gX4_init_X2_init_n29 : GoodIn wsX4_init (wsX2_init) := ggX4_init_X2_init
set_option maxRecDepth 20000 in
theorem ggX4_init_X4_firstTrack : GoodIn wsX4_init wsX4_firstTrack := goodIn_r _ [69, 11, 12, 13, 61, 62, 63, 2, 3, 32, 64, 65, 70, 71, 72, 73, 74, 75, 76, 77, 78, 79, 80, 81, 82, 83, 84, 85, 86, 87, 88, 89, 90, 91, 92, 93, 94, 95, 96, 97, 98, 99, 100, 101, 102, 103, 104, 105, 106, 107, 108, 109, 110, 111, 112, 113, 114, 115, 116, 117, 118, 119, 120, 121, 122, 154, 155] (by decide +kernel) (by decide +kernel)
set_option maxRecDepth 20000 in
theorem gX4_init_X4_firstTrack : GoodIn wsX4_init (va_wsS RX4 34 yX4_firstTrack wsX4_firstTrack) := goodIn_app (goodIn_of _ (by decide +kernel)) ggX4_init_X4_firstTrack
set_option maxRecDepth 20000 in
theorem ggX4_init_X0_begin : GoodIn wsX4_init wsX0_begin := goodIn_r _ [126, 22, 36, 37, 38, 33, 127, 128, 129, 21, 130, 131, 48, 49, 44, 132, 45, 46, 47, 133, 134, 135, 136, 137, 138, 139, 140, 141, 142, 143, 144, 145, 146, 147, 148, 154, 155, 156, 157, 158, 159, 160, 161] (by decide +kernel) (by decide +kernel)
set_option maxRecDepth 20000 in
theorem gX4_init_X0_begin : GoodIn wsX4_init (wsV RX4 38 RX0 yX0_begin wsX0_begin) := goodIn_app (goodIn_of _ (by decide +kernel)) ggX4_init_X0_begin
theorem dX4_init_0 : decode cX4_init 0 = .ok (.aload_n 0, 1) := by decide +kernel
theorem dX4_init_1 : decode cX4_init 1 = .ok (.invokespecial 1, 3) := by decide +kernel
theorem dX4_init_4 : decode cX4_init 4 = .ok (.aload_n 0, 1) := by decide +kernel
theorem dX4_init_5 : decode cX4_init 5 = .ok (.new 7, 3) := by decide +kernel
theorem dX4_init_8 : decode cX4_init 8 = .ok (.dup, 1) := by decide +kernel
theorem dX4_init_9 : decode cX4_init 9 = .ok (.invokespecial 9, 3) := by decide +kernel
theorem dX4_init_12 : decode cX4_init 12 = .ok (.putfield 10, 3) := by decide +kernel
theorem dX4_init_15 : decode cX4_init 15 = .ok (.aload_n 0, 1) := by decide +kernel
theorem dX4_init_16 : decode cX4_init 16 = .ok (.new 7, 3) := by decide +kernel
theorem dX4_init_19 : decode cX4_init 19 = .ok (.dup, 1) := by decide +kernel
theorem dX4_init_20 : decode cX4_init 20 = .ok (.invokespecial 9, 3) := by decide +kernel
theorem dX4_init_23 : decode cX4_init 23 = .ok (.putfield 16, 3) := by decide +kernel
theorem dX4_init_26 : decode cX4_init 26 = .ok (.aload_n 0, 1) := by decide +kernel
theorem dX4_init_27 : decode cX4_init 27 = .ok (.iconst 4, 1) := by decide +kernel
theorem dX4_init_28 : decode cX4_init 28 = .ok (.anewarray 7, 3) := by decide +kernel
theorem dX4_init_31 : decode cX4_init 31 = .ok (.putfield 19, 3) := by decide +kernel
theorem dX4_init_34 : decode cX4_init 34 = .ok (.iconst 0, 1) := by decide +kernel
theorem dX4_init_35 : decode cX4_init 35 = .ok (.istore_n 1, 1) := by decide +kernel
theorem dX4_init_36 : decode cX4_init 36 = .ok (.iload_n 1, 1) := by decide +kernel
theorem dX4_init_37 : decode cX4_init 37 = .ok (.iconst 4, 1) := by decide +kernel
theorem dX4_init_38 : decode cX4_init 38 = .ok (.if_icmp .ge 22, 3) := by decide +kernel
theorem dX4_init_41 : decode cX4_init 41 = .ok (.aload_n 0, 1) := by decide +kernel
theorem dX4_init_42 : decode cX4_init 42 = .ok (.getfield 19, 3) := by decide +kernel
theorem dX4_init_45 : decode cX4_init 45 = .ok (.iload_n 1, 1) := by decide +kernel
theorem dX4_init_46 : decode cX4_init 46 = .ok (.new 7, 3) := by decide +kernel
theorem dX4_init_49 : decode cX4_init 49 = .ok (.dup, 1) := by decide +kernel
theorem dX4_init_50 : decode cX4_init 50 = .ok (.invokespecial 9, 3) := by decide +kernel
theorem dX4_init_53 : decode cX4_init 53 = .ok (.aastore, 1) := by decide +kernel
theorem dX4_init_54 : decode cX4_init 54 = .ok (.iinc 1 1, 3) := by decide +kernel
theorem dX4_init_57 : decode cX4_init 57 = .ok (.goto (-21), 3) := by decide +kernel
theorem dX4_init_60 : decode cX4_init 60 = .ok (.aload_n 0, 1) := by decide +kernel
theorem dX4_init_61 : decode cX4_init 61 = .ok (.iconst 0, 1) := by decide +kernel
theorem dX4_init_62 : decode cX4_init 62 = .ok (.putfield 23, 3) := by decide +kernel
theorem dX4_init_65 : decode cX4_init 65 = .ok (.aload_n 0, 1) := by decide +kernel
theorem dX4_init_66 : decode cX4_init 66 = .ok (.new 27, 3) := by decide +kernel
theorem dX4_init_69 : decode cX4_init 69 = .ok (.dup, 1) := by decide +kernel
theorem dX4_init_70 : decode cX4_init 70 = .ok (.invokespecial 29, 3) := by decide +kernel
theorem dX4_init_73 : decode cX4_init 73 = .ok (.putfield 30, 3) := by decide +kernel
theorem dX4_init_76 : decode cX4_init 76 = .ok (.aload_n 0, 1) := by decide +kernel
theorem dX4_init_77 : decode cX4_init 77 = .ok (.getfield 10, 3) := by decide +kernel
theorem dX4_init_80 : decode cX4_init 80 = .ok (.invokestatic 34, 3) := by decide +kernel
theorem dX4_init_83 : decode cX4_init 83 = .ok (.invokevirtual 38, 3) := by decide +kernel
theorem dX4_init_86 : decode cX4_init 86 = .ok (.return_, 1) := by decide +kernel
set_option maxRecDepth 20000 in
theorem ggX4_firstTrack_X2_init : GoodIn wsX4_firstTrack wsX2_init := goodIn_r _ [5, 6, 7, 8, 9, 10, 11, 65, 66] (by decide +kernel) (by decide +kernel)
set_option maxRecDepth 20000 in
theorem gX4_firstTrack_X2_init_n29 : GoodIn wsX4_firstTrack (wsX2_init) := ggX4_firstTrack_X2_init
set_option maxRecDepth 20000 in
theorem ggX4_firstTrack_J0_length_8abf5 : GoodIn wsX4_firstTrack wsJ0_length_8abf5 := goodIn_r _ [16, 17, 18, 19, 20, 15, 21, 22, 23] (by decide +kernel) (by decide +kernel)
set_option maxRecDepth 20000 in
theorem gX4_firstTrack_J0_length_8abf5 : GoodIn wsX4_firstTrack (wsV RX4 44 RJ0 yJ0_length_8abf5 wsJ0_length_8abf5) := goodIn_app (goodIn_of _ (by decide +kernel)) ggX4_firstTrack_J0_length_8abf5
set_option maxRecDepth 20000 in
theorem ggX4_firstTrack_J0_charAt_5068e : GoodIn wsX4_firstTrack wsJ0_charAt_5068e := goodIn_r _ [27, 17, 28, 29, 30, 15, 31, 22, 23, 32, 33, 34, 35, 36, 37, 38, 39, 40, 41, 42, 43, 44, 45, 46, 47, 48, 49, 50, 51, 52, 53, 54, 55, 56, 57, 58, 59, 60] (by decide +kernel) (by decide +kernel)
set_option maxRecDepth 20000 in
theorem gX4_firstTrack_J0_charAt_5068e : GoodIn wsX4_firstTrack (wsV RX4 50 RJ0 yJ0_charAt_5068e wsJ0_charAt_5068e) := goodIn_app (goodIn_of _ (by decide +kernel)) ggX4_firstTrack_J0_charAt_5068e
set_option maxRecDepth 20000 in
theorem ggX4_firstTrack_X2_add : GoodIn wsX4_firstTrack wsX2_add := goodIn_r _ [64, 11, 10, 65, 66] (by decide +kernel) (by decide +kernel)
set_option maxRecDepth 20000 in
theorem gX4_firstTrack_X2_add : GoodIn wsX4_firstTrack (wsV RX4 54 RX2 yX2_add wsX2_add) := goodIn_app (goodIn_of _ (by decide +kernel)) ggX4_firstTrack_X2_add
theorem dX4_firstTrack_0 : decode cX4_firstTrack 0 = .ok (.new 27, 3) := by decide +kernel
theorem dX4_firstTrack_3 : decode cX4_firstTrack 3 = .ok (.dup, 1) := by decide +kernel
theorem dX4_firstTrack_4 : decode cX4_firstTrack 4 = .ok (.invokespecial 29, 3) := by decide +kernel
theorem dX4_firstTrack_7 : decode cX4_firstTrack 7 = .ok (.astore_n 0, 1) := by decide +kernel
theorem dX4_firstTrack_8 : decode cX4_firstTrack 8 = .ok (.iconst 0, 1) := by decide +kernel
theorem dX4_firstTrack_9 : decode cX4_firstTrack 9 = .ok (.istore_n 1, 1) := by decide +kernel
theorem dX4_firstTrack_10 : decode cX4_firstTrack 10 = .ok (.iload_n 1, 1) := by decide +kernel
theorem dX4_firstTrack_11 : decode cX4_firstTrack 11 = .ok (.ldc 42, 2) := by decide +kernel
theorem dX4_firstTrack_13 : decode cX4_firstTrack 13 = .ok (.invokevirtual 44, 3) := by decide +kernel
theorem dX4_firstTrack_16 : decode cX4_firstTrack 16 = .ok (.if_icmp .ge 19, 3) := by decide +kernel
theorem dX4_firstTrack_19 : decode cX4_firstTrack 19 = .ok (.aload_n 0, 1) := by decide +kernel
theorem dX4_firstTrack_20 : decode cX4_firstTrack 20 = .ok (.ldc 42, 2) := by decide +kernel
theorem dX4_firstTrack_22 : decode cX4_firstTrack 22 = .ok (.iload_n 1, 1) := by decide +kernel
theorem dX4_firstTrack_23 : decode cX4_firstTrack 23 = .ok (.invokevirtual 50, 3) := by decide +kernel
theorem dX4_firstTrack_26 : decode cX4_firstTrack 26 = .ok (.invokevirtual 54, 3) := by decide +kernel
theorem dX4_firstTrack_29 : decode cX4_firstTrack 29 = .ok (.iinc 1 1, 3) := by decide +kernel
theorem dX4_firstTrack_32 : decode cX4_firstTrack 32 = .ok (.goto (-22), 3) := by decide +kernel
theorem dX4_firstTrack_35 : decode cX4_firstTrack 35 = .ok (.aload_n 0, 1) := by decide +kernel
theorem dX4_firstTrack_36 : decode cX4_firstTrack 36 = .ok (.areturn, 1) := by decide +kernel
set_option maxRecDepth 20000 in
theorem ggX4_addTrain_X4_requireBlock : GoodIn wsX4_addTrain wsX4_requireBlock := goodIn_ca (goodIn_r _ [9, 10, 11, 3, 12, 13, 95, 96, 97, 98, 99, 100, 101, 102, 103, 104, 105, 106, 107, 108, 109, 110, 111, 112, 113, 114] (by decide +kernel) (by decide +kernel)) (goodIn_sub (fun _ h => List.mem_cons_of_mem _ (List.mem_append_right _ h)) (by decide +kernel))
set_option maxRecDepth 20000 in
theorem gX4_addTrain_X4_requireBlock : GoodIn wsX4_addTrain (wsV RX4 58 RX4 yX4_requireBlock wsX4_requireBlock) := goodIn_app (goodIn_of _ (by decide +kernel)) ggX4_addTrain_X4_requireBlock
set_option maxRecDepth 20000 in
theorem ggX4_addTrain_X0_isFree : GoodIn wsX4_addTrain wsX0_isFree := goodIn_r _ [18, 19, 20, 21, 22, 23, 24, 25, 26, 27, 28, 29, 30, 31, 17, 32, 33, 34, 35, 36, 37, 38, 39, 100, 101, 102, 103, 104, 105, 106, 107, 108, 115, 116, 117, 118, 119, 120, 121, 122, 109, 110, 111, 112, 113, 114] (by decide +kernel) (by decide +kernel)
set_option maxRecDepth 20000 in
theorem gX4_addTrain_X0_isFree : GoodIn wsX4_addTrain (wsV RX4 71 RX0 yX0_isFree wsX0_isFree) := goodIn_app (goodIn_of _ (by decide +kernel)) ggX4_addTrain_X0_isFree
set_option maxRecDepth 20000 in
theorem ggX4_addTrain_X4_save : GoodIn wsX4_addTrain wsX4_save := goodIn_r _ [43, 44, 45, 3, 46, 47, 48, 17, 49, 19, 20, 50, 51, 52, 53, 54, 55, 56, 57, 33, 58, 59, 60, 61, 62, 25, 63, 64, 65, 66, 67, 27, 68, 28, 69, 70, 71, 72, 73, 74, 75, 76, 77, 78, 79, 80, 81, 95, 96, 97, 98, 99, 100, 101, 102, 103, 104, 105, 106, 107, 108, 109, 110, 111, 112, 113, 114, 115, 116, 117, 118, 119, 120, 121, 122] (by decide +kernel) (by decide +kernel)
set_option maxRecDepth 20000 in
theorem gX4_addTrain_X4_save : GoodIn wsX4_addTrain (wsV RX4 77 RX4 yX4_save wsX4_save) := goodIn_app (goodIn_of _ (by decide +kernel)) ggX4_addTrain_X4_save
set_option maxRecDepth 20000 in
theorem ggX4_addTrain_X0_putTrain : GoodIn wsX4_addTrain wsX0_putTrain := goodIn_r _ [85, 33, 20, 19, 86, 50, 87, 88, 89, 72, 90, 77, 80, 81, 91, 92, 93, 94, 74, 75, 76, 78, 79, 100, 101, 102, 103, 104, 105, 106, 107, 108, 109, 110, 111, 112, 113, 114, 115, 116, 117, 118, 119, 120, 121, 122] (by decide +kernel) (by decide +kernel)
set_option maxRecDepth 20000 in
theorem gX4_addTrain_X0_putTrain : GoodIn wsX4_addTrain (wsV RX4 80 RX0 yX0_putTrain wsX0_putTrain) := goodIn_app (goodIn_of _ (by decide +kernel)) ggX4_addTrain_X0_putTrain
theorem dX4_addTrain_0 : decode cX4_addTrain 0 = .ok (.aload_n 0, 1) := by decide +kernel
theorem dX4_addTrain_1 : decode cX4_addTrain 1 = .ok (.iload_n 1, 1) := by decide +kernel
theorem dX4_addTrain_2 : decode cX4_addTrain 2 = .ok (.invokevirtual 58, 3) := by decide +kernel
theorem dX4_addTrain_5 : decode cX4_addTrain 5 = .ok (.aload_n 0, 1) := by decide +kernel
theorem dX4_addTrain_6 : decode cX4_addTrain 6 = .ok (.getfield 10, 3) := by decide +kernel
theorem dX4_addTrain_9 : decode cX4_addTrain 9 = .ok (.getfield 61, 3) := by decide +kernel
theorem dX4_addTrain_12 : decode cX4_addTrain 12 = .ok (.iconst 4, 1) := by decide +kernel
theorem dX4_addTrain_13 : decode cX4_addTrain 13 = .ok (.if_icmp .ne 13, 3) := by decide +kernel
theorem dX4_addTrain_16 : decode cX4_addTrain 16 = .ok (.new 64, 3) := by decide +kernel
theorem dX4_addTrain_19 : decode cX4_addTrain 19 = .ok (.dup, 1) := by decide +kernel
theorem dX4_addTrain_20 : decode cX4_addTrain 20 = .ok (.ldc 66, 2) := by decide +kernel
theorem dX4_addTrain_22 : decode cX4_addTrain 22 = .ok (.invokespecial 68, 3) := by decide +kernel
theorem dX4_addTrain_25 : decode cX4_addTrain 25 = .ok (.athrow, 1) := by decide +kernel
theorem dX4_addTrain_26 : decode cX4_addTrain 26 = .ok (.aload_n 0, 1) := by decide +kernel
theorem dX4_addTrain_27 : decode cX4_addTrain 27 = .ok (.getfield 10, 3) := by decide +kernel
theorem dX4_addTrain_30 : decode cX4_addTrain 30 = .ok (.iload_n 1, 1) := by decide +kernel
theorem dX4_addTrain_31 : decode cX4_addTrain 31 = .ok (.invokevirtual 71, 3) := by decide +kernel
theorem dX4_addTrain_34 : decode cX4_addTrain 34 = .ok (.ifCond .ne 13, 3) := by decide +kernel
theorem dX4_addTrain_37 : decode cX4_addTrain 37 = .ok (.new 64, 3) := by decide +kernel
theorem dX4_addTrain_40 : decode cX4_addTrain 40 = .ok (.dup, 1) := by decide +kernel
theorem dX4_addTrain_41 : decode cX4_addTrain 41 = .ok (.ldc 75, 2) := by decide +kernel
theorem dX4_addTrain_43 : decode cX4_addTrain 43 = .ok (.invokespecial 68, 3) := by decide +kernel
theorem dX4_addTrain_46 : decode cX4_addTrain 46 = .ok (.athrow, 1) := by decide +kernel
theorem dX4_addTrain_47 : decode cX4_addTrain 47 = .ok (.aload_n 0, 1) := by decide +kernel
theorem dX4_addTrain_48 : decode cX4_addTrain 48 = .ok (.invokevirtual 77, 3) := by decide +kernel
theorem dX4_addTrain_51 : decode cX4_addTrain 51 = .ok (.aload_n 0, 1) := by decide +kernel
theorem dX4_addTrain_52 : decode cX4_addTrain 52 = .ok (.getfield 10, 3) := by decide +kernel
theorem dX4_addTrain_55 : decode cX4_addTrain 55 = .ok (.iload_n 1, 1) := by decide +kernel
theorem dX4_addTrain_56 : decode cX4_addTrain 56 = .ok (.invokevirtual 80, 3) := by decide +kernel
theorem dX4_addTrain_59 : decode cX4_addTrain 59 = .ok (.aload_n 0, 1) := by decide +kernel
theorem dX4_addTrain_60 : decode cX4_addTrain 60 = .ok (.getfield 10, 3) := by decide +kernel
theorem dX4_addTrain_63 : decode cX4_addTrain 63 = .ok (.getfield 61, 3) := by decide +kernel
theorem dX4_addTrain_66 : decode cX4_addTrain 66 = .ok (.iconst 1, 1) := by decide +kernel
theorem dX4_addTrain_67 : decode cX4_addTrain 67 = .ok (.isub, 1) := by decide +kernel
theorem dX4_addTrain_68 : decode cX4_addTrain 68 = .ok (.ireturn, 1) := by decide +kernel
set_option maxRecDepth 20000 in
theorem ggX4_takeTrain_X4_save : GoodIn wsX4_takeTrain wsX4_save := goodIn_r _ [9, 10, 11, 3, 12, 13, 14, 15, 16, 17, 18, 19, 20, 21, 22, 23, 24, 25, 26, 27, 28, 29, 30, 31, 32, 33, 34, 35, 36, 37, 38, 39, 40, 41, 42, 43, 44, 45, 46, 47, 48, 49, 50, 51, 52, 53, 54, 55, 56, 57, 58, 59, 60, 61, 62, 63, 64, 65, 66, 67, 68, 69, 70, 71, 72, 73, 74, 75, 76, 77, 78, 79, 80, 81, 82] (by decide +kernel) (by decide +kernel)
set_option maxRecDepth 20000 in
theorem gX4_takeTrain_X4_save : GoodIn wsX4_takeTrain (wsV RX4 77 RX4 yX4_save wsX4_save) := goodIn_app (goodIn_of _ (by decide +kernel)) ggX4_takeTrain_X4_save
theorem dX4_takeTrain_0 : decode cX4_takeTrain 0 = .ok (.aload_n 0, 1) := by decide +kernel
theorem dX4_takeTrain_1 : decode cX4_takeTrain 1 = .ok (.getfield 10, 3) := by decide +kernel
theorem dX4_takeTrain_4 : decode cX4_takeTrain 4 = .ok (.getfield 61, 3) := by decide +kernel
theorem dX4_takeTrain_7 : decode cX4_takeTrain 7 = .ok (.ifCond .ne 13, 3) := by decide +kernel
theorem dX4_takeTrain_10 : decode cX4_takeTrain 10 = .ok (.new 64, 3) := by decide +kernel
theorem dX4_takeTrain_13 : decode cX4_takeTrain 13 = .ok (.dup, 1) := by decide +kernel
theorem dX4_takeTrain_14 : decode cX4_takeTrain 14 = .ok (.ldc 83, 2) := by decide +kernel
theorem dX4_takeTrain_16 : decode cX4_takeTrain 16 = .ok (.invokespecial 68, 3) := by decide +kernel
theorem dX4_takeTrain_19 : decode cX4_takeTrain 19 = .ok (.athrow, 1) := by decide +kernel
theorem dX4_takeTrain_20 : decode cX4_takeTrain 20 = .ok (.aload_n 0, 1) := by decide +kernel
theorem dX4_takeTrain_21 : decode cX4_takeTrain 21 = .ok (.invokevirtual 77, 3) := by decide +kernel
theorem dX4_takeTrain_24 : decode cX4_takeTrain 24 = .ok (.aload_n 0, 1) := by decide +kernel
theorem dX4_takeTrain_25 : decode cX4_takeTrain 25 = .ok (.getfield 10, 3) := by decide +kernel
theorem dX4_takeTrain_28 : decode cX4_takeTrain 28 = .ok (.dup, 1) := by decide +kernel
theorem dX4_takeTrain_29 : decode cX4_takeTrain 29 = .ok (.getfield 61, 3) := by decide +kernel
theorem dX4_takeTrain_32 : decode cX4_takeTrain 32 = .ok (.iconst 1, 1) := by decide +kernel
theorem dX4_takeTrain_33 : decode cX4_takeTrain 33 = .ok (.isub, 1) := by decide +kernel
theorem dX4_takeTrain_34 : decode cX4_takeTrain 34 = .ok (.putfield 61, 3) := by decide +kernel
theorem dX4_takeTrain_37 : decode cX4_takeTrain 37 = .ok (.aload_n 0, 1) := by decide +kernel
theorem dX4_takeTrain_38 : decode cX4_takeTrain 38 = .ok (.getfield 10, 3) := by decide +kernel
theorem dX4_takeTrain_41 : decode cX4_takeTrain 41 = .ok (.getfield 61, 3) := by decide +kernel
theorem dX4_takeTrain_44 : decode cX4_takeTrain 44 = .ok (.ireturn, 1) := by decide +kernel
set_option maxRecDepth 20000 in
theorem ggX4_rescue_X4_requireTrain : GoodIn wsX4_rescue wsX4_requireTrain := goodIn_ca (goodIn_r _ [13, 14, 15, 3, 16, 76, 77, 78, 79, 80, 81, 82, 83, 84, 85, 86, 87, 88, 89] (by decide +kernel) (by decide +kernel)) (goodIn_sub (fun _ h => List.mem_cons_of_mem _ (List.mem_append_right _ h)) (by decide +kernel))
set_option maxRecDepth 20000 in
theorem gX4_rescue_X4_requireTrain : GoodIn wsX4_rescue (wsV RX4 85 RX4 yX4_requireTrain wsX4_requireTrain) := goodIn_app (goodIn_of _ (by decide +kernel)) ggX4_rescue_X4_requireTrain
set_option maxRecDepth 20000 in
theorem ggX4_rescue_X4_save : GoodIn wsX4_rescue wsX4_save := goodIn_r _ [20, 21, 22, 3, 23, 24, 25, 26, 27, 28, 29, 30, 31, 32, 33, 34, 35, 36, 37, 38, 39, 40, 41, 42, 43, 44, 45, 46, 47, 48, 49, 50, 51, 52, 53, 54, 55, 56, 57, 58, 59, 60, 61, 62, 63, 64, 65, 76, 77, 78, 79, 80, 81, 82, 83, 84, 85, 86, 87, 88, 89, 98, 99, 100, 101, 102, 103, 90, 91, 92, 93, 94, 95, 96, 97] (by decide +kernel) (by decide +kernel)
set_option maxRecDepth 20000 in
theorem gX4_rescue_X4_save : GoodIn wsX4_rescue (wsV RX4 77 RX4 yX4_save wsX4_save) := goodIn_app (goodIn_of _ (by decide +kernel)) ggX4_rescue_X4_save
set_option maxRecDepth 20000 in
theorem ggX4_rescue_X0_blockOf : GoodIn wsX4_rescue wsX0_blockOf := goodIn_r _ [69, 28, 70, 71, 81, 82, 83, 84, 85, 86, 87, 88, 89, 98, 99, 100, 101, 102, 103, 90, 91, 92, 93, 94, 95, 96, 97] (by decide +kernel) (by decide +kernel)
set_option maxRecDepth 20000 in
theorem gX4_rescue_X0_blockOf : GoodIn wsX4_rescue (wsV RX4 112 RX0 yX0_blockOf wsX0_blockOf) := goodIn_app (goodIn_of _ (by decide +kernel)) ggX4_rescue_X0_blockOf
set_option maxRecDepth 20000 in
theorem ggX4_rescue_X3_standOn : GoodIn wsX4_rescue wsX3_standOn := goodIn_r _ [75, 58, 59, 60, 62, 63, 90, 91, 92, 93, 94, 95, 96, 97] (by decide +kernel) (by decide +kernel)
set_option maxRecDepth 20000 in
theorem gX4_rescue_X3_standOn : GoodIn wsX4_rescue (wsV RX4 116 RX3 yX3_standOn wsX3_standOn) := goodIn_app (goodIn_of _ (by decide +kernel)) ggX4_rescue_X3_standOn
theorem dX4_rescue_0 : decode cX4_rescue 0 = .ok (.aload_n 0, 1) := by decide +kernel
theorem dX4_rescue_1 : decode cX4_rescue 1 = .ok (.iload_n 1, 1) := by decide +kernel
theorem dX4_rescue_2 : decode cX4_rescue 2 = .ok (.invokevirtual 85, 3) := by decide +kernel
theorem dX4_rescue_5 : decode cX4_rescue 5 = .ok (.aload_n 0, 1) := by decide +kernel
theorem dX4_rescue_6 : decode cX4_rescue 6 = .ok (.getfield 10, 3) := by decide +kernel
theorem dX4_rescue_9 : decode cX4_rescue 9 = .ok (.getfield 88, 3) := by decide +kernel
theorem dX4_rescue_12 : decode cX4_rescue 12 = .ok (.iload_n 1, 1) := by decide +kernel
theorem dX4_rescue_13 : decode cX4_rescue 13 = .ok (.aaload, 1) := by decide +kernel
theorem dX4_rescue_14 : decode cX4_rescue 14 = .ok (.astore_n 2, 1) := by decide +kernel
theorem dX4_rescue_15 : decode cX4_rescue 15 = .ok (.aload_n 2, 1) := by decide +kernel
theorem dX4_rescue_16 : decode cX4_rescue 16 = .ok (.getfield 92, 3) := by decide +kernel
theorem dX4_rescue_19 : decode cX4_rescue 19 = .ok (.iconst 2, 1) := by decide +kernel
theorem dX4_rescue_20 : decode cX4_rescue 20 = .ok (.if_icmp .eq 13, 3) := by decide +kernel
theorem dX4_rescue_23 : decode cX4_rescue 23 = .ok (.new 64, 3) := by decide +kernel
theorem dX4_rescue_26 : decode cX4_rescue 26 = .ok (.dup, 1) := by decide +kernel
theorem dX4_rescue_27 : decode cX4_rescue 27 = .ok (.ldc 97, 2) := by decide +kernel
theorem dX4_rescue_29 : decode cX4_rescue 29 = .ok (.invokespecial 68, 3) := by decide +kernel
theorem dX4_rescue_32 : decode cX4_rescue 32 = .ok (.athrow, 1) := by decide +kernel
theorem dX4_rescue_33 : decode cX4_rescue 33 = .ok (.aload_n 0, 1) := by decide +kernel
theorem dX4_rescue_34 : decode cX4_rescue 34 = .ok (.invokevirtual 77, 3) := by decide +kernel
theorem dX4_rescue_37 : decode cX4_rescue 37 = .ok (.aload_n 2, 1) := by decide +kernel
theorem dX4_rescue_38 : decode cX4_rescue 38 = .ok (.getfield 99, 3) := by decide +kernel
theorem dX4_rescue_41 : decode cX4_rescue 41 = .ok (.istore_n 3, 1) := by decide +kernel
theorem dX4_rescue_42 : decode cX4_rescue 42 = .ok (.aload_n 2, 1) := by decide +kernel
theorem dX4_rescue_43 : decode cX4_rescue 43 = .ok (.aload_n 0, 1) := by decide +kernel
theorem dX4_rescue_44 : decode cX4_rescue 44 = .ok (.getfield 10, 3) := by decide +kernel
theorem dX4_rescue_47 : decode cX4_rescue 47 = .ok (.getfield 102, 3) := by decide +kernel
theorem dX4_rescue_50 : decode cX4_rescue 50 = .ok (.getfield 106, 3) := by decide +kernel
theorem dX4_rescue_53 : decode cX4_rescue 53 = .ok (.aload_n 0, 1) := by decide +kernel
theorem dX4_rescue_54 : decode cX4_rescue 54 = .ok (.getfield 10, 3) := by decide +kernel
theorem dX4_rescue_57 : decode cX4_rescue 57 = .ok (.aload_n 2, 1) := by decide +kernel
theorem dX4_rescue_58 : decode cX4_rescue 58 = .ok (.invokevirtual 112, 3) := by decide +kernel
theorem dX4_rescue_61 : decode cX4_rescue 61 = .ok (.iaload, 1) := by decide +kernel
theorem dX4_rescue_62 : decode cX4_rescue 62 = .ok (.invokevirtual 116, 3) := by decide +kernel
theorem dX4_rescue_65 : decode cX4_rescue 65 = .ok (.iload_n 3, 1) := by decide +kernel
theorem dX4_rescue_66 : decode cX4_rescue 66 = .ok (.ireturn, 1) := by decide +kernel
set_option maxRecDepth 20000 in
theorem ggX4_set_X4_save : GoodIn wsX4_set wsX4_save := goodIn_r _ [13, 14, 15, 7, 16, 17, 18, 19, 20, 21, 22, 23, 24, 25, 26, 27, 28, 29, 30, 31, 32, 33, 34, 35, 36, 37, 38, 39, 40, 41, 42, 43, 44, 45, 46, 47, 48, 49, 50, 51, 52, 53, 54, 55, 56, 57, 58, 59, 60, 61, 62, 63, 64, 65, 66, 67, 68, 69, 70, 71, 72, 73, 74, 75, 76, 77, 78, 79, 80, 81, 82, 83, 84, 85, 86] (by decide +kernel) (by decide +kernel)
set_option maxRecDepth 20000 in
theorem gX4_set_X4_save : GoodIn wsX4_set (wsV RX4 77 RX4 yX4_save wsX4_save) := goodIn_app (goodIn_of _ (by decide +kernel)) ggX4_set_X4_save
theorem dX4_set_0 : decode cX4_set 0 = .ok (.iload_n 1, 1) := by decide +kernel
theorem dX4_set_1 : decode cX4_set 1 = .ok (.ifCond .lt 8, 3) := by decide +kernel
theorem dX4_set_4 : decode cX4_set 4 = .ok (.iload_n 1, 1) := by decide +kernel
theorem dX4_set_5 : decode cX4_set 5 = .ok (.iconst 3, 1) := by decide +kernel
theorem dX4_set_6 : decode cX4_set 6 = .ok (.if_icmp .le 13, 3) := by decide +kernel
theorem dX4_set_9 : decode cX4_set 9 = .ok (.new 119, 3) := by decide +kernel
theorem dX4_set_12 : decode cX4_set 12 = .ok (.dup, 1) := by decide +kernel
theorem dX4_set_13 : decode cX4_set 13 = .ok (.ldc 121, 2) := by decide +kernel
theorem dX4_set_15 : decode cX4_set 15 = .ok (.invokespecial 123, 3) := by decide +kernel
theorem dX4_set_18 : decode cX4_set 18 = .ok (.athrow, 1) := by decide +kernel
theorem dX4_set_19 : decode cX4_set 19 = .ok (.iload_n 2, 1) := by decide +kernel
theorem dX4_set_20 : decode cX4_set 20 = .ok (.getstatic 124, 3) := by decide +kernel
theorem dX4_set_23 : decode cX4_set 23 = .ok (.iload_n 1, 1) := by decide +kernel
theorem dX4_set_24 : decode cX4_set 24 = .ok (.iaload, 1) := by decide +kernel
theorem dX4_set_25 : decode cX4_set 25 = .ok (.if_icmp .lt 12, 3) := by decide +kernel
theorem dX4_set_28 : decode cX4_set 28 = .ok (.iload_n 2, 1) := by decide +kernel
theorem dX4_set_29 : decode cX4_set 29 = .ok (.getstatic 127, 3) := by decide +kernel
theorem dX4_set_32 : decode cX4_set 32 = .ok (.iload_n 1, 1) := by decide +kernel
theorem dX4_set_33 : decode cX4_set 33 = .ok (.iaload, 1) := by decide +kernel
theorem dX4_set_34 : decode cX4_set 34 = .ok (.if_icmp .le 13, 3) := by decide +kernel
theorem dX4_set_37 : decode cX4_set 37 = .ok (.new 130, 3) := by decide +kernel
theorem dX4_set_40 : decode cX4_set 40 = .ok (.dup, 1) := by decide +kernel
theorem dX4_set_41 : decode cX4_set 41 = .ok (.ldc 132, 2) := by decide +kernel
theorem dX4_set_43 : decode cX4_set 43 = .ok (.invokespecial 134, 3) := by decide +kernel
theorem dX4_set_46 : decode cX4_set 46 = .ok (.athrow, 1) := by decide +kernel
theorem dX4_set_47 : decode cX4_set 47 = .ok (.aload_n 0, 1) := by decide +kernel
theorem dX4_set_48 : decode cX4_set 48 = .ok (.invokevirtual 77, 3) := by decide +kernel
theorem dX4_set_51 : decode cX4_set 51 = .ok (.aload_n 0, 1) := by decide +kernel
theorem dX4_set_52 : decode cX4_set 52 = .ok (.getfield 10, 3) := by decide +kernel
theorem dX4_set_55 : decode cX4_set 55 = .ok (.getfield 135, 3) := by decide +kernel
theorem dX4_set_58 : decode cX4_set 58 = .ok (.iload_n 1, 1) := by decide +kernel
theorem dX4_set_59 : decode cX4_set 59 = .ok (.iaload, 1) := by decide +kernel
theorem dX4_set_60 : decode cX4_set 60 = .ok (.istore_n 3, 1) := by decide +kernel
theorem dX4_set_61 : decode cX4_set 61 = .ok (.aload_n 0, 1) := by decide +kernel
theorem dX4_set_62 : decode cX4_set 62 = .ok (.getfield 10, 3) := by decide +kernel
theorem dX4_set_65 : decode cX4_set 65 = .ok (.getfield 135, 3) := by decide +kernel
theorem dX4_set_68 : decode cX4_set 68 = .ok (.iload_n 1, 1) := by decide +kernel
theorem dX4_set_69 : decode cX4_set 69 = .ok (.iload_n 2, 1) := by decide +kernel
theorem dX4_set_70 : decode cX4_set 70 = .ok (.iastore, 1) := by decide +kernel
theorem dX4_set_71 : decode cX4_set 71 = .ok (.iload_n 3, 1) := by decide +kernel
theorem dX4_set_72 : decode cX4_set 72 = .ok (.ireturn, 1) := by decide +kernel
set_option maxRecDepth 20000 in
theorem ggX4_setHeight_X4_requireCell : GoodIn wsX4_setHeight wsX4_requireCell := goodIn_ca (goodIn_r _ [10, 11, 12, 3, 4, 13, 63, 64, 65, 66, 67, 68, 69, 70, 71, 72, 73, 74, 75, 76, 77, 78, 79, 80, 81, 82] (by decide +kernel) (by decide +kernel)) (goodIn_sub (fun _ h => List.mem_cons_of_mem _ (List.mem_append_right _ h)) (by decide +kernel))
set_option maxRecDepth 20000 in
theorem gX4_setHeight_X4_requireCell : GoodIn wsX4_setHeight (wsV RX4 138 RX4 yX4_requireCell wsX4_requireCell) := goodIn_app (goodIn_of _ (by decide +kernel)) ggX4_setHeight_X4_requireCell
set_option maxRecDepth 20000 in
theorem ggX4_setHeight_X4_save : GoodIn wsX4_setHeight wsX4_save := goodIn_r _ [17, 18, 19, 3, 20, 21, 22, 23, 24, 25, 26, 27, 28, 29, 30, 31, 32, 33, 34, 35, 36, 37, 38, 39, 40, 41, 42, 43, 44, 45, 46, 47, 48, 49, 50, 51, 52, 53, 54, 55, 56, 57, 58, 59, 60, 61, 62, 63, 64, 65, 66, 67, 68, 69, 70, 71, 72, 73, 74, 75, 76, 77, 78, 79, 80, 81, 82, 83, 84, 85, 86, 87, 88, 89, 90] (by decide +kernel) (by decide +kernel)
set_option maxRecDepth 20000 in
theorem gX4_setHeight_X4_save : GoodIn wsX4_setHeight (wsV RX4 77 RX4 yX4_save wsX4_save) := goodIn_app (goodIn_of _ (by decide +kernel)) ggX4_setHeight_X4_save
theorem dX4_setHeight_0 : decode cX4_setHeight 0 = .ok (.aload_n 0, 1) := by decide +kernel
theorem dX4_setHeight_1 : decode cX4_setHeight 1 = .ok (.iload_n 1, 1) := by decide +kernel
theorem dX4_setHeight_2 : decode cX4_setHeight 2 = .ok (.invokevirtual 138, 3) := by decide +kernel
theorem dX4_setHeight_5 : decode cX4_setHeight 5 = .ok (.iload_n 2, 1) := by decide +kernel
theorem dX4_setHeight_6 : decode cX4_setHeight 6 = .ok (.ifCond .lt 9, 3) := by decide +kernel
theorem dX4_setHeight_9 : decode cX4_setHeight 9 = .ok (.iload_n 2, 1) := by decide +kernel
theorem dX4_setHeight_10 : decode cX4_setHeight 10 = .ok (.bipush 9, 2) := by decide +kernel
theorem dX4_setHeight_12 : decode cX4_setHeight 12 = .ok (.if_icmp .le 13, 3) := by decide +kernel
theorem dX4_setHeight_15 : decode cX4_setHeight 15 = .ok (.new 130, 3) := by decide +kernel
theorem dX4_setHeight_18 : decode cX4_setHeight 18 = .ok (.dup, 1) := by decide +kernel
theorem dX4_setHeight_19 : decode cX4_setHeight 19 = .ok (.ldc 141, 2) := by decide +kernel
theorem dX4_setHeight_21 : decode cX4_setHeight 21 = .ok (.invokespecial 134, 3) := by decide +kernel
theorem dX4_setHeight_24 : decode cX4_setHeight 24 = .ok (.athrow, 1) := by decide +kernel
theorem dX4_setHeight_25 : decode cX4_setHeight 25 = .ok (.aload_n 0, 1) := by decide +kernel
theorem dX4_setHeight_26 : decode cX4_setHeight 26 = .ok (.invokevirtual 77, 3) := by decide +kernel
theorem dX4_setHeight_29 : decode cX4_setHeight 29 = .ok (.aload_n 0, 1) := by decide +kernel
theorem dX4_setHeight_30 : decode cX4_setHeight 30 = .ok (.getfield 10, 3) := by decide +kernel
theorem dX4_setHeight_33 : decode cX4_setHeight 33 = .ok (.getfield 102, 3) := by decide +kernel
theorem dX4_setHeight_36 : decode cX4_setHeight 36 = .ok (.getfield 143, 3) := by decide +kernel
theorem dX4_setHeight_39 : decode cX4_setHeight 39 = .ok (.iload_n 1, 1) := by decide +kernel
theorem dX4_setHeight_40 : decode cX4_setHeight 40 = .ok (.iaload, 1) := by decide +kernel
theorem dX4_setHeight_41 : decode cX4_setHeight 41 = .ok (.istore_n 3, 1) := by decide +kernel
theorem dX4_setHeight_42 : decode cX4_setHeight 42 = .ok (.aload_n 0, 1) := by decide +kernel
theorem dX4_setHeight_43 : decode cX4_setHeight 43 = .ok (.getfield 10, 3) := by decide +kernel
theorem dX4_setHeight_46 : decode cX4_setHeight 46 = .ok (.getfield 102, 3) := by decide +kernel
theorem dX4_setHeight_49 : decode cX4_setHeight 49 = .ok (.getfield 143, 3) := by decide +kernel
theorem dX4_setHeight_52 : decode cX4_setHeight 52 = .ok (.iload_n 1, 1) := by decide +kernel
theorem dX4_setHeight_53 : decode cX4_setHeight 53 = .ok (.iload_n 2, 1) := by decide +kernel
theorem dX4_setHeight_54 : decode cX4_setHeight 54 = .ok (.iastore, 1) := by decide +kernel
theorem dX4_setHeight_55 : decode cX4_setHeight 55 = .ok (.iload_n 3, 1) := by decide +kernel
theorem dX4_setHeight_56 : decode cX4_setHeight 56 = .ok (.ireturn, 1) := by decide +kernel
set_option maxRecDepth 20000 in
theorem ggX4_pass_X4_save : GoodIn wsX4_pass wsX4_save := goodIn_r _ [13, 14, 15, 5, 16, 17, 18, 19, 20, 21, 22, 23, 24, 25, 26, 27, 28, 29, 30, 31, 32, 33, 34, 35, 36, 37, 38, 39, 40, 41, 42, 43, 44, 45, 46, 47, 48, 49, 50, 51, 52, 53, 54, 55, 56, 57, 58, 171, 172, 173, 174, 175, 176, 177, 178, 179, 180, 181, 182, 183, 184, 185, 186, 187, 188, 189, 190, 191, 192, 193, 194, 195, 196, 197, 198] (by decide +kernel) (by decide +kernel)
set_option maxRecDepth 20000 in
theorem gX4_pass_X4_save : GoodIn wsX4_pass (wsV RX4 77 RX4 yX4_save wsX4_save) := goodIn_app (goodIn_of _ (by decide +kernel)) ggX4_pass_X4_save
set_option maxRecDepth 20000 in
theorem ggX4_pass_X0_tick : GoodIn wsX4_pass wsX0_tick := goodIn_r _ [62, 31, 22, 63, 23, 32, 64, 65, 66, 19, 67, 68, 69, 70, 71, 72, 21, 33, 73, 74, 75, 76, 77, 78, 79, 80, 81, 37, 82, 45, 83, 84, 85, 86, 87, 88, 89, 90, 43, 91, 92, 93, 94, 95, 96, 97, 98, 99, 100, 101, 102, 29, 103, 104, 105, 106, 107, 108, 109, 49, 110, 52, 53, 55, 56, 111, 112, 113, 114, 30, 115, 116, 117, 118, 119, 120, 121, 122, 123, 124, 125, 126, 127, 128, 129, 130, 131, 132, 133, 134, 41, 39, 135, 136, 137, 138, 139, 140, 141, 142, 44, 143, 144, 145, 146, 147, 148, 149, 150, 151, 51, 57, 152, 153, 154, 155, 156, 28, 157, 158, 159, 160, 161, 162, 163, 164, 165, 166, 167, 168, 54, 169, 170, 176, 177, 178, 179, 180, 181, 182, 183, 184, 191, 192, 193, 194, 195, 196, 197, 198, 185, 186, 187, 188, 189, 190] (by decide +kernel) (by decide +kernel)
set_option maxRecDepth 20000 in
theorem gX4_pass_X0_tick : GoodIn wsX4_pass (wsV RX4 157 RX0 yX0_tick wsX0_tick) := goodIn_app (goodIn_of _ (by decide +kernel)) ggX4_pass_X0_tick
theorem dX4_pass_0 : decode cX4_pass 0 = .ok (.iload_n 1, 1) := by decide +kernel
theorem dX4_pass_1 : decode cX4_pass 1 = .ok (.iconst 1, 1) := by decide +kernel
theorem dX4_pass_2 : decode cX4_pass 2 = .ok (.if_icmp .lt 10, 3) := by decide +kernel
theorem dX4_pass_5 : decode cX4_pass 5 = .ok (.iload_n 1, 1) := by decide +kernel
theorem dX4_pass_6 : decode cX4_pass 6 = .ok (.sipush 500, 3) := by decide +kernel
theorem dX4_pass_9 : decode cX4_pass 9 = .ok (.if_icmp .le 13, 3) := by decide +kernel
theorem dX4_pass_12 : decode cX4_pass 12 = .ok (.new 130, 3) := by decide +kernel
theorem dX4_pass_15 : decode cX4_pass 15 = .ok (.dup, 1) := by decide +kernel
theorem dX4_pass_16 : decode cX4_pass 16 = .ok (.ldc 146, 2) := by decide +kernel
theorem dX4_pass_18 : decode cX4_pass 18 = .ok (.invokespecial 134, 3) := by decide +kernel
theorem dX4_pass_21 : decode cX4_pass 21 = .ok (.athrow, 1) := by decide +kernel
theorem dX4_pass_22 : decode cX4_pass 22 = .ok (.aload_n 0, 1) := by decide +kernel
theorem dX4_pass_23 : decode cX4_pass 23 = .ok (.getfield 10, 3) := by decide +kernel
theorem dX4_pass_26 : decode cX4_pass 26 = .ok (.getfield 148, 3) := by decide +kernel
theorem dX4_pass_29 : decode cX4_pass 29 = .ok (.iload_n 1, 1) := by decide +kernel
theorem dX4_pass_30 : decode cX4_pass 30 = .ok (.iadd, 1) := by decide +kernel
theorem dX4_pass_31 : decode cX4_pass 31 = .ok (.ldc 151, 2) := by decide +kernel
theorem dX4_pass_33 : decode cX4_pass 33 = .ok (.if_icmp .le 13, 3) := by decide +kernel
theorem dX4_pass_36 : decode cX4_pass 36 = .ok (.new 64, 3) := by decide +kernel
theorem dX4_pass_39 : decode cX4_pass 39 = .ok (.dup, 1) := by decide +kernel
theorem dX4_pass_40 : decode cX4_pass 40 = .ok (.ldc 152, 2) := by decide +kernel
theorem dX4_pass_42 : decode cX4_pass 42 = .ok (.invokespecial 68, 3) := by decide +kernel
theorem dX4_pass_45 : decode cX4_pass 45 = .ok (.athrow, 1) := by decide +kernel
theorem dX4_pass_46 : decode cX4_pass 46 = .ok (.aload_n 0, 1) := by decide +kernel
theorem dX4_pass_47 : decode cX4_pass 47 = .ok (.invokevirtual 77, 3) := by decide +kernel
theorem dX4_pass_50 : decode cX4_pass 50 = .ok (.aload_n 0, 1) := by decide +kernel
theorem dX4_pass_51 : decode cX4_pass 51 = .ok (.getfield 10, 3) := by decide +kernel
theorem dX4_pass_54 : decode cX4_pass 54 = .ok (.getfield 154, 3) := by decide +kernel
theorem dX4_pass_57 : decode cX4_pass 57 = .ok (.istore_n 2, 1) := by decide +kernel
theorem dX4_pass_58 : decode cX4_pass 58 = .ok (.iconst 0, 1) := by decide +kernel
theorem dX4_pass_59 : decode cX4_pass 59 = .ok (.istore_n 3, 1) := by decide +kernel
theorem dX4_pass_60 : decode cX4_pass 60 = .ok (.iload_n 3, 1) := by decide +kernel
theorem dX4_pass_61 : decode cX4_pass 61 = .ok (.iload_n 1, 1) := by decide +kernel
theorem dX4_pass_62 : decode cX4_pass 62 = .ok (.if_icmp .ge 16, 3) := by decide +kernel
theorem dX4_pass_65 : decode cX4_pass 65 = .ok (.aload_n 0, 1) := by decide +kernel
theorem dX4_pass_66 : decode cX4_pass 66 = .ok (.getfield 10, 3) := by decide +kernel
theorem dX4_pass_69 : decode cX4_pass 69 = .ok (.invokevirtual 157, 3) := by decide +kernel
theorem dX4_pass_72 : decode cX4_pass 72 = .ok (.iinc 3 1, 3) := by decide +kernel
theorem dX4_pass_75 : decode cX4_pass 75 = .ok (.goto (-15), 3) := by decide +kernel
theorem dX4_pass_78 : decode cX4_pass 78 = .ok (.aload_n 0, 1) := by decide +kernel
theorem dX4_pass_79 : decode cX4_pass 79 = .ok (.getfield 10, 3) := by decide +kernel
theorem dX4_pass_82 : decode cX4_pass 82 = .ok (.getfield 154, 3) := by decide +kernel
theorem dX4_pass_85 : decode cX4_pass 85 = .ok (.iload_n 2, 1) := by decide +kernel
theorem dX4_pass_86 : decode cX4_pass 86 = .ok (.isub, 1) := by decide +kernel
theorem dX4_pass_87 : decode cX4_pass 87 = .ok (.ireturn, 1) := by decide +kernel
set_option maxRecDepth 20000 in
theorem ggX4_train_X4_requireTrain : GoodIn wsX4_train wsX4_requireTrain := goodIn_ca (goodIn_r _ [17, 18, 19, 3, 20, 35, 36, 37, 38, 39, 40, 41, 42, 43, 44, 45, 46, 47, 48] (by decide +kernel) (by decide +kernel)) (goodIn_sub (fun _ h => List.mem_cons_of_mem _ (List.mem_append_right _ h)) (by decide +kernel))
set_option maxRecDepth 20000 in
theorem gX4_train_X4_requireTrain : GoodIn wsX4_train (wsV RX4 85 RX4 yX4_requireTrain wsX4_requireTrain) := goodIn_app (goodIn_of _ (by decide +kernel)) ggX4_train_X4_requireTrain
set_option maxRecDepth 20000 in
theorem ggX4_train_X0_blockOf : GoodIn wsX4_train wsX0_blockOf := goodIn_r _ [25, 26, 27, 28, 40, 41, 42, 43, 44, 45, 46, 47, 48, 57, 58, 59, 60, 61, 62, 49, 50, 51, 52, 53, 54, 55, 56] (by decide +kernel) (by decide +kernel)
set_option maxRecDepth 20000 in
theorem gX4_train_X0_blockOf : GoodIn wsX4_train (wsV RX4 112 RX0 yX0_blockOf wsX0_blockOf) := goodIn_app (goodIn_of _ (by decide +kernel)) ggX4_train_X0_blockOf
set_option maxRecDepth 20000 in
theorem ggX4_train_X0_dragOf : GoodIn wsX4_train wsX0_dragOf := goodIn_r _ [32, 33, 34, 49, 50, 51, 52, 53, 54, 55, 56, 40, 41, 42, 43, 44, 45, 46, 47, 48] (by decide +kernel) (by decide +kernel)
set_option maxRecDepth 20000 in
theorem gX4_train_X0_dragOf : GoodIn wsX4_train (wsV RX4 172 RX0 yX0_dragOf wsX0_dragOf) := goodIn_app (goodIn_of _ (by decide +kernel)) ggX4_train_X0_dragOf
theorem dX4_train_0 : decode cX4_train 0 = .ok (.aload_n 0, 1) := by decide +kernel
theorem dX4_train_1 : decode cX4_train 1 = .ok (.iload_n 1, 1) := by decide +kernel
theorem dX4_train_2 : decode cX4_train 2 = .ok (.invokevirtual 85, 3) := by decide +kernel
theorem dX4_train_5 : decode cX4_train 5 = .ok (.aload_n 0, 1) := by decide +kernel
theorem dX4_train_6 : decode cX4_train 6 = .ok (.getfield 10, 3) := by decide +kernel
theorem dX4_train_9 : decode cX4_train 9 = .ok (.getfield 88, 3) := by decide +kernel
theorem dX4_train_12 : decode cX4_train 12 = .ok (.iload_n 1, 1) := by decide +kernel
theorem dX4_train_13 : decode cX4_train 13 = .ok (.aaload, 1) := by decide +kernel
theorem dX4_train_14 : decode cX4_train 14 = .ok (.astore_n 3, 1) := by decide +kernel
theorem dX4_train_15 : decode cX4_train 15 = .ok (.iload_n 2, 1) := by decide +kernel
theorem dX4_train_16 : decode cX4_train 16 = .ok (.tableswitch 114 0 9 #[56, 61, 70, 75, 80, 85, 90, 95, 104, 109], 56) := by decide +kernel
theorem dX4_train_72 : decode cX4_train 72 = .ok (.aload_n 3, 1) := by decide +kernel
theorem dX4_train_73 : decode cX4_train 73 = .ok (.getfield 99, 3) := by decide +kernel
theorem dX4_train_76 : decode cX4_train 76 = .ok (.ireturn, 1) := by decide +kernel
theorem dX4_train_77 : decode cX4_train 77 = .ok (.aload_n 0, 1) := by decide +kernel
theorem dX4_train_78 : decode cX4_train 78 = .ok (.getfield 10, 3) := by decide +kernel
theorem dX4_train_81 : decode cX4_train 81 = .ok (.aload_n 3, 1) := by decide +kernel
theorem dX4_train_82 : decode cX4_train 82 = .ok (.invokevirtual 112, 3) := by decide +kernel
theorem dX4_train_85 : decode cX4_train 85 = .ok (.ireturn, 1) := by decide +kernel
theorem dX4_train_86 : decode cX4_train 86 = .ok (.aload_n 3, 1) := by decide +kernel
theorem dX4_train_87 : decode cX4_train 87 = .ok (.getfield 160, 3) := by decide +kernel
theorem dX4_train_90 : decode cX4_train 90 = .ok (.ireturn, 1) := by decide +kernel
theorem dX4_train_91 : decode cX4_train 91 = .ok (.aload_n 3, 1) := by decide +kernel
theorem dX4_train_92 : decode cX4_train 92 = .ok (.getfield 163, 3) := by decide +kernel
theorem dX4_train_95 : decode cX4_train 95 = .ok (.ireturn, 1) := by decide +kernel
theorem dX4_train_96 : decode cX4_train 96 = .ok (.aload_n 3, 1) := by decide +kernel
theorem dX4_train_97 : decode cX4_train 97 = .ok (.getfield 166, 3) := by decide +kernel
theorem dX4_train_100 : decode cX4_train 100 = .ok (.ireturn, 1) := by decide +kernel
theorem dX4_train_101 : decode cX4_train 101 = .ok (.aload_n 3, 1) := by decide +kernel
theorem dX4_train_102 : decode cX4_train 102 = .ok (.getfield 92, 3) := by decide +kernel
theorem dX4_train_105 : decode cX4_train 105 = .ok (.ireturn, 1) := by decide +kernel
theorem dX4_train_106 : decode cX4_train 106 = .ok (.aload_n 3, 1) := by decide +kernel
theorem dX4_train_107 : decode cX4_train 107 = .ok (.getfield 169, 3) := by decide +kernel
theorem dX4_train_110 : decode cX4_train 110 = .ok (.ireturn, 1) := by decide +kernel
theorem dX4_train_111 : decode cX4_train 111 = .ok (.aload_n 0, 1) := by decide +kernel
theorem dX4_train_112 : decode cX4_train 112 = .ok (.getfield 10, 3) := by decide +kernel
theorem dX4_train_115 : decode cX4_train 115 = .ok (.aload_n 3, 1) := by decide +kernel
theorem dX4_train_116 : decode cX4_train 116 = .ok (.invokevirtual 172, 3) := by decide +kernel
theorem dX4_train_119 : decode cX4_train 119 = .ok (.ireturn, 1) := by decide +kernel
theorem dX4_train_120 : decode cX4_train 120 = .ok (.aload_n 3, 1) := by decide +kernel
theorem dX4_train_121 : decode cX4_train 121 = .ok (.getfield 175, 3) := by decide +kernel
theorem dX4_train_124 : decode cX4_train 124 = .ok (.ireturn, 1) := by decide +kernel
theorem dX4_train_125 : decode cX4_train 125 = .ok (.aload_n 3, 1) := by decide +kernel
theorem dX4_train_126 : decode cX4_train 126 = .ok (.getfield 178, 3) := by decide +kernel
theorem dX4_train_129 : decode cX4_train 129 = .ok (.ireturn, 1) := by decide +kernel
theorem dX4_train_130 : decode cX4_train 130 = .ok (.new 130, 3) := by decide +kernel
theorem dX4_train_133 : decode cX4_train 133 = .ok (.dup, 1) := by decide +kernel
theorem dX4_train_134 : decode cX4_train 134 = .ok (.ldc 181, 2) := by decide +kernel
theorem dX4_train_136 : decode cX4_train 136 = .ok (.invokespecial 134, 3) := by decide +kernel
theorem dX4_train_139 : decode cX4_train 139 = .ok (.athrow, 1) := by decide +kernel
set_option maxRecDepth 20000 in
theorem ggX4_cell_X4_requireCell : GoodIn wsX4_cell wsX4_requireCell := goodIn_ca (goodIn_r _ [12, 13, 14, 3, 4, 15, 24, 25, 26, 27, 28, 29, 30, 31, 32, 33, 34, 35, 36, 37, 38, 39, 40, 41, 42, 43] (by decide +kernel) (by decide +kernel)) (goodIn_sub (fun _ h => List.mem_cons_of_mem _ (List.mem_append_right _ h)) (by decide +kernel))
set_option maxRecDepth 20000 in
theorem gX4_cell_X4_requireCell : GoodIn wsX4_cell (wsV RX4 138 RX4 yX4_requireCell wsX4_requireCell) := goodIn_app (goodIn_of _ (by decide +kernel)) ggX4_cell_X4_requireCell
set_option maxRecDepth 20000 in
theorem ggX4_cell_X0_trainOnCell : GoodIn wsX4_cell wsX0_trainOnCell := goodIn_r _ [20, 21, 22, 23, 29, 30, 31, 32, 33, 34, 35, 36, 37, 44, 45, 46, 47, 48, 49, 50, 51] (by decide +kernel) (by decide +kernel)
set_option maxRecDepth 20000 in
theorem gX4_cell_X0_trainOnCell : GoodIn wsX4_cell (wsV RX4 189 RX0 yX0_trainOnCell wsX0_trainOnCell) := goodIn_app (goodIn_of _ (by decide +kernel)) ggX4_cell_X0_trainOnCell
theorem dX4_cell_0 : decode cX4_cell 0 = .ok (.aload_n 0, 1) := by decide +kernel
theorem dX4_cell_1 : decode cX4_cell 1 = .ok (.iload_n 1, 1) := by decide +kernel
theorem dX4_cell_2 : decode cX4_cell 2 = .ok (.invokevirtual 138, 3) := by decide +kernel
theorem dX4_cell_5 : decode cX4_cell 5 = .ok (.iload_n 2, 1) := by decide +kernel
theorem dX4_cell_6 : decode cX4_cell 6 = .ok (.tableswitch 78 0 3 #[30, 43, 56, 69], 30) := by decide +kernel
theorem dX4_cell_36 : decode cX4_cell 36 = .ok (.aload_n 0, 1) := by decide +kernel
theorem dX4_cell_37 : decode cX4_cell 37 = .ok (.getfield 10, 3) := by decide +kernel
theorem dX4_cell_40 : decode cX4_cell 40 = .ok (.getfield 102, 3) := by decide +kernel
theorem dX4_cell_43 : decode cX4_cell 43 = .ok (.getfield 143, 3) := by decide +kernel
theorem dX4_cell_46 : decode cX4_cell 46 = .ok (.iload_n 1, 1) := by decide +kernel
theorem dX4_cell_47 : decode cX4_cell 47 = .ok (.iaload, 1) := by decide +kernel
theorem dX4_cell_48 : decode cX4_cell 48 = .ok (.ireturn, 1) := by decide +kernel
theorem dX4_cell_49 : decode cX4_cell 49 = .ok (.aload_n 0, 1) := by decide +kernel
theorem dX4_cell_50 : decode cX4_cell 50 = .ok (.getfield 10, 3) := by decide +kernel
theorem dX4_cell_53 : decode cX4_cell 53 = .ok (.getfield 102, 3) := by decide +kernel
theorem dX4_cell_56 : decode cX4_cell 56 = .ok (.getfield 183, 3) := by decide +kernel
theorem dX4_cell_59 : decode cX4_cell 59 = .ok (.iload_n 1, 1) := by decide +kernel
theorem dX4_cell_60 : decode cX4_cell 60 = .ok (.iaload, 1) := by decide +kernel
theorem dX4_cell_61 : decode cX4_cell 61 = .ok (.ireturn, 1) := by decide +kernel
theorem dX4_cell_62 : decode cX4_cell 62 = .ok (.aload_n 0, 1) := by decide +kernel
theorem dX4_cell_63 : decode cX4_cell 63 = .ok (.getfield 10, 3) := by decide +kernel
theorem dX4_cell_66 : decode cX4_cell 66 = .ok (.getfield 102, 3) := by decide +kernel
theorem dX4_cell_69 : decode cX4_cell 69 = .ok (.getfield 186, 3) := by decide +kernel
theorem dX4_cell_72 : decode cX4_cell 72 = .ok (.iload_n 1, 1) := by decide +kernel
theorem dX4_cell_73 : decode cX4_cell 73 = .ok (.iaload, 1) := by decide +kernel
theorem dX4_cell_74 : decode cX4_cell 74 = .ok (.ireturn, 1) := by decide +kernel
theorem dX4_cell_75 : decode cX4_cell 75 = .ok (.aload_n 0, 1) := by decide +kernel
theorem dX4_cell_76 : decode cX4_cell 76 = .ok (.getfield 10, 3) := by decide +kernel
theorem dX4_cell_79 : decode cX4_cell 79 = .ok (.iload_n 1, 1) := by decide +kernel
theorem dX4_cell_80 : decode cX4_cell 80 = .ok (.invokevirtual 189, 3) := by decide +kernel
theorem dX4_cell_83 : decode cX4_cell 83 = .ok (.ireturn, 1) := by decide +kernel
theorem dX4_cell_84 : decode cX4_cell 84 = .ok (.new 130, 3) := by decide +kernel
theorem dX4_cell_87 : decode cX4_cell 87 = .ok (.dup, 1) := by decide +kernel
theorem dX4_cell_88 : decode cX4_cell 88 = .ok (.ldc 193, 2) := by decide +kernel
theorem dX4_cell_90 : decode cX4_cell 90 = .ok (.invokespecial 134, 3) := by decide +kernel
theorem dX4_cell_93 : decode cX4_cell 93 = .ok (.athrow, 1) := by decide +kernel
set_option maxRecDepth 20000 in
theorem ggX4_block_X4_requireBlock : GoodIn wsX4_block wsX4_requireBlock := goodIn_ca (goodIn_r _ [11, 12, 13, 3, 4, 14, 45, 46, 47, 48, 49, 50, 51, 52, 53, 54, 55, 56, 57, 58, 59, 60, 61, 62, 63, 64] (by decide +kernel) (by decide +kernel)) (goodIn_sub (fun _ h => List.mem_cons_of_mem _ (List.mem_append_right _ h)) (by decide +kernel))
set_option maxRecDepth 20000 in
theorem gX4_block_X4_requireBlock : GoodIn wsX4_block (wsV RX4 58 RX4 yX4_requireBlock wsX4_requireBlock) := goodIn_app (goodIn_of _ (by decide +kernel)) ggX4_block_X4_requireBlock
set_option maxRecDepth 20000 in
theorem ggX4_block_X1_firstCell : GoodIn wsX4_block wsX1_firstCell := goodIn_r _ [19, 20, 21, 22, 18, 23, 24, 25, 26, 27, 28, 29, 30, 59, 60, 61, 62, 63, 64] (by decide +kernel) (by decide +kernel)
set_option maxRecDepth 20000 in
theorem gX4_block_X1_firstCell : GoodIn wsX4_block (wsV RX4 195 RX1 yX1_firstCell wsX1_firstCell) := goodIn_app (goodIn_of _ (by decide +kernel)) ggX4_block_X1_firstCell
set_option maxRecDepth 20000 in
theorem ggX4_block_X1_blockLength : GoodIn wsX4_block wsX1_blockLength := goodIn_r _ [34, 24, 30, 20, 21, 22, 18, 23, 25, 59, 60, 61, 62, 63, 64] (by decide +kernel) (by decide +kernel)
set_option maxRecDepth 20000 in
theorem gX4_block_X1_blockLength : GoodIn wsX4_block (wsV RX4 198 RX1 yX1_blockLength wsX1_blockLength) := goodIn_app (goodIn_of _ (by decide +kernel)) ggX4_block_X1_blockLength
set_option maxRecDepth 20000 in
theorem ggX4_block_X0_trainInBlock : GoodIn wsX4_block wsX0_trainInBlock := goodIn_r _ [39, 40, 41, 42, 43, 44, 50, 51, 52, 53, 54, 55, 56, 57, 58, 59, 60, 61, 62, 63, 64, 65, 66, 67, 68, 69, 70, 71, 72] (by decide +kernel) (by decide +kernel)
set_option maxRecDepth 20000 in
theorem gX4_block_X0_trainInBlock : GoodIn wsX4_block (wsV RX4 201 RX0 yX0_trainInBlock wsX0_trainInBlock) := goodIn_app (goodIn_of _ (by decide +kernel)) ggX4_block_X0_trainInBlock
theorem dX4_block_0 : decode cX4_block 0 = .ok (.aload_n 0, 1) := by decide +kernel
theorem dX4_block_1 : decode cX4_block 1 = .ok (.iload_n 1, 1) := by decide +kernel
theorem dX4_block_2 : decode cX4_block 2 = .ok (.invokevirtual 58, 3) := by decide +kernel
theorem dX4_block_5 : decode cX4_block 5 = .ok (.iload_n 2, 1) := by decide +kernel
theorem dX4_block_6 : decode cX4_block 6 = .ok (.tableswitch 90 0 4 #[34, 46, 59, 71, 80], 34) := by decide +kernel
theorem dX4_block_40 : decode cX4_block 40 = .ok (.aload_n 0, 1) := by decide +kernel
theorem dX4_block_41 : decode cX4_block 41 = .ok (.getfield 10, 3) := by decide +kernel
theorem dX4_block_44 : decode cX4_block 44 = .ok (.getfield 102, 3) := by decide +kernel
theorem dX4_block_47 : decode cX4_block 47 = .ok (.iload_n 1, 1) := by decide +kernel
theorem dX4_block_48 : decode cX4_block 48 = .ok (.invokevirtual 195, 3) := by decide +kernel
theorem dX4_block_51 : decode cX4_block 51 = .ok (.ireturn, 1) := by decide +kernel
theorem dX4_block_52 : decode cX4_block 52 = .ok (.aload_n 0, 1) := by decide +kernel
theorem dX4_block_53 : decode cX4_block 53 = .ok (.getfield 10, 3) := by decide +kernel
theorem dX4_block_56 : decode cX4_block 56 = .ok (.getfield 102, 3) := by decide +kernel
theorem dX4_block_59 : decode cX4_block 59 = .ok (.getfield 106, 3) := by decide +kernel
theorem dX4_block_62 : decode cX4_block 62 = .ok (.iload_n 1, 1) := by decide +kernel
theorem dX4_block_63 : decode cX4_block 63 = .ok (.iaload, 1) := by decide +kernel
theorem dX4_block_64 : decode cX4_block 64 = .ok (.ireturn, 1) := by decide +kernel
theorem dX4_block_65 : decode cX4_block 65 = .ok (.aload_n 0, 1) := by decide +kernel
theorem dX4_block_66 : decode cX4_block 66 = .ok (.getfield 10, 3) := by decide +kernel
theorem dX4_block_69 : decode cX4_block 69 = .ok (.getfield 102, 3) := by decide +kernel
theorem dX4_block_72 : decode cX4_block 72 = .ok (.iload_n 1, 1) := by decide +kernel
theorem dX4_block_73 : decode cX4_block 73 = .ok (.invokevirtual 198, 3) := by decide +kernel
theorem dX4_block_76 : decode cX4_block 76 = .ok (.ireturn, 1) := by decide +kernel
theorem dX4_block_77 : decode cX4_block 77 = .ok (.aload_n 0, 1) := by decide +kernel
theorem dX4_block_78 : decode cX4_block 78 = .ok (.getfield 10, 3) := by decide +kernel
theorem dX4_block_81 : decode cX4_block 81 = .ok (.iload_n 1, 1) := by decide +kernel
theorem dX4_block_82 : decode cX4_block 82 = .ok (.invokevirtual 201, 3) := by decide +kernel
theorem dX4_block_85 : decode cX4_block 85 = .ok (.ireturn, 1) := by decide +kernel
theorem dX4_block_86 : decode cX4_block 86 = .ok (.aload_n 0, 1) := by decide +kernel
theorem dX4_block_87 : decode cX4_block 87 = .ok (.getfield 10, 3) := by decide +kernel
theorem dX4_block_90 : decode cX4_block 90 = .ok (.getfield 204, 3) := by decide +kernel
theorem dX4_block_93 : decode cX4_block 93 = .ok (.iload_n 1, 1) := by decide +kernel
theorem dX4_block_94 : decode cX4_block 94 = .ok (.iaload, 1) := by decide +kernel
theorem dX4_block_95 : decode cX4_block 95 = .ok (.ireturn, 1) := by decide +kernel
theorem dX4_block_96 : decode cX4_block 96 = .ok (.new 130, 3) := by decide +kernel
theorem dX4_block_99 : decode cX4_block 99 = .ok (.dup, 1) := by decide +kernel
theorem dX4_block_100 : decode cX4_block 100 = .ok (.ldc 207, 2) := by decide +kernel
theorem dX4_block_102 : decode cX4_block 102 = .ok (.invokespecial 134, 3) := by decide +kernel
theorem dX4_block_105 : decode cX4_block 105 = .ok (.athrow, 1) := by decide +kernel
set_option maxRecDepth 20000 in
theorem ggX4_value_X0_latestDispatch : GoodIn wsX4_value wsX0_latestDispatch := goodIn_r _ [15, 16, 17, 18, 19, 20, 14, 21, 45, 46, 47, 48, 49, 50, 51, 52, 53] (by decide +kernel) (by decide +kernel)
set_option maxRecDepth 20000 in
theorem gX4_value_X0_latestDispatch : GoodIn wsX4_value (wsV RX4 215 RX0 yX0_latestDispatch wsX0_latestDispatch) := goodIn_app (goodIn_of _ (by decide +kernel)) ggX4_value_X0_latestDispatch
set_option maxRecDepth 20000 in
theorem ggX4_value_X0_lyingTrains : GoodIn wsX4_value wsX0_lyingTrains := goodIn_r _ [25, 26, 27, 28, 45, 46, 47, 48, 49, 50, 51, 52, 53, 60, 61, 62, 63, 64, 65, 66, 67] (by decide +kernel) (by decide +kernel)
set_option maxRecDepth 20000 in
theorem gX4_value_X0_lyingTrains : GoodIn wsX4_value (wsV RX4 218 RX0 yX0_lyingTrains wsX0_lyingTrains) := goodIn_app (goodIn_of _ (by decide +kernel)) ggX4_value_X0_lyingTrains
set_option maxRecDepth 20000 in
theorem ggX4_value_X1_greatestHeight : GoodIn wsX4_value wsX1_greatestHeight := goodIn_r _ [33, 34, 35, 36, 37, 38, 39, 54, 55, 56, 57, 58, 59] (by decide +kernel) (by decide +kernel)
set_option maxRecDepth 20000 in
theorem gX4_value_X1_greatestHeight : GoodIn wsX4_value (wsV RX4 221 RX1 yX1_greatestHeight wsX1_greatestHeight) := goodIn_app (goodIn_of _ (by decide +kernel)) ggX4_value_X1_greatestHeight
theorem dX4_value_0 : decode cX4_value 0 = .ok (.iload_n 1, 1) := by decide +kernel
theorem dX4_value_1 : decode cX4_value 1 = .ok (.tableswitch 176 0 11 #[63, 74, 85, 93, 101, 111, 121, 131, 141, 149, 157, 165], 63) := by decide +kernel
theorem dX4_value_64 : decode cX4_value 64 = .ok (.aload_n 0, 1) := by decide +kernel
theorem dX4_value_65 : decode cX4_value 65 = .ok (.getfield 10, 3) := by decide +kernel
theorem dX4_value_68 : decode cX4_value 68 = .ok (.getfield 102, 3) := by decide +kernel
theorem dX4_value_71 : decode cX4_value 71 = .ok (.getfield 209, 3) := by decide +kernel
theorem dX4_value_74 : decode cX4_value 74 = .ok (.ireturn, 1) := by decide +kernel
theorem dX4_value_75 : decode cX4_value 75 = .ok (.aload_n 0, 1) := by decide +kernel
theorem dX4_value_76 : decode cX4_value 76 = .ok (.getfield 10, 3) := by decide +kernel
theorem dX4_value_79 : decode cX4_value 79 = .ok (.getfield 102, 3) := by decide +kernel
theorem dX4_value_82 : decode cX4_value 82 = .ok (.getfield 212, 3) := by decide +kernel
theorem dX4_value_85 : decode cX4_value 85 = .ok (.ireturn, 1) := by decide +kernel
theorem dX4_value_86 : decode cX4_value 86 = .ok (.aload_n 0, 1) := by decide +kernel
theorem dX4_value_87 : decode cX4_value 87 = .ok (.getfield 10, 3) := by decide +kernel
theorem dX4_value_90 : decode cX4_value 90 = .ok (.getfield 61, 3) := by decide +kernel
theorem dX4_value_93 : decode cX4_value 93 = .ok (.ireturn, 1) := by decide +kernel
theorem dX4_value_94 : decode cX4_value 94 = .ok (.aload_n 0, 1) := by decide +kernel
theorem dX4_value_95 : decode cX4_value 95 = .ok (.getfield 10, 3) := by decide +kernel
theorem dX4_value_98 : decode cX4_value 98 = .ok (.getfield 148, 3) := by decide +kernel
theorem dX4_value_101 : decode cX4_value 101 = .ok (.ireturn, 1) := by decide +kernel
theorem dX4_value_102 : decode cX4_value 102 = .ok (.aload_n 0, 1) := by decide +kernel
theorem dX4_value_103 : decode cX4_value 103 = .ok (.getfield 10, 3) := by decide +kernel
theorem dX4_value_106 : decode cX4_value 106 = .ok (.getfield 135, 3) := by decide +kernel
theorem dX4_value_109 : decode cX4_value 109 = .ok (.iconst 0, 1) := by decide +kernel
theorem dX4_value_110 : decode cX4_value 110 = .ok (.iaload, 1) := by decide +kernel
theorem dX4_value_111 : decode cX4_value 111 = .ok (.ireturn, 1) := by decide +kernel
theorem dX4_value_112 : decode cX4_value 112 = .ok (.aload_n 0, 1) := by decide +kernel
theorem dX4_value_113 : decode cX4_value 113 = .ok (.getfield 10, 3) := by decide +kernel
theorem dX4_value_116 : decode cX4_value 116 = .ok (.getfield 135, 3) := by decide +kernel
theorem dX4_value_119 : decode cX4_value 119 = .ok (.iconst 1, 1) := by decide +kernel
theorem dX4_value_120 : decode cX4_value 120 = .ok (.iaload, 1) := by decide +kernel
theorem dX4_value_121 : decode cX4_value 121 = .ok (.ireturn, 1) := by decide +kernel
theorem dX4_value_122 : decode cX4_value 122 = .ok (.aload_n 0, 1) := by decide +kernel
theorem dX4_value_123 : decode cX4_value 123 = .ok (.getfield 10, 3) := by decide +kernel
theorem dX4_value_126 : decode cX4_value 126 = .ok (.getfield 135, 3) := by decide +kernel
theorem dX4_value_129 : decode cX4_value 129 = .ok (.iconst 2, 1) := by decide +kernel
theorem dX4_value_130 : decode cX4_value 130 = .ok (.iaload, 1) := by decide +kernel
theorem dX4_value_131 : decode cX4_value 131 = .ok (.ireturn, 1) := by decide +kernel
theorem dX4_value_132 : decode cX4_value 132 = .ok (.aload_n 0, 1) := by decide +kernel
theorem dX4_value_133 : decode cX4_value 133 = .ok (.getfield 10, 3) := by decide +kernel
theorem dX4_value_136 : decode cX4_value 136 = .ok (.getfield 135, 3) := by decide +kernel
theorem dX4_value_139 : decode cX4_value 139 = .ok (.iconst 3, 1) := by decide +kernel
theorem dX4_value_140 : decode cX4_value 140 = .ok (.iaload, 1) := by decide +kernel
theorem dX4_value_141 : decode cX4_value 141 = .ok (.ireturn, 1) := by decide +kernel
theorem dX4_value_142 : decode cX4_value 142 = .ok (.aload_n 0, 1) := by decide +kernel
theorem dX4_value_143 : decode cX4_value 143 = .ok (.getfield 10, 3) := by decide +kernel
theorem dX4_value_146 : decode cX4_value 146 = .ok (.getfield 154, 3) := by decide +kernel
theorem dX4_value_149 : decode cX4_value 149 = .ok (.ireturn, 1) := by decide +kernel
theorem dX4_value_150 : decode cX4_value 150 = .ok (.aload_n 0, 1) := by decide +kernel
theorem dX4_value_151 : decode cX4_value 151 = .ok (.getfield 10, 3) := by decide +kernel
theorem dX4_value_154 : decode cX4_value 154 = .ok (.invokevirtual 215, 3) := by decide +kernel
theorem dX4_value_157 : decode cX4_value 157 = .ok (.ireturn, 1) := by decide +kernel
theorem dX4_value_158 : decode cX4_value 158 = .ok (.aload_n 0, 1) := by decide +kernel
theorem dX4_value_159 : decode cX4_value 159 = .ok (.getfield 10, 3) := by decide +kernel
theorem dX4_value_162 : decode cX4_value 162 = .ok (.invokevirtual 218, 3) := by decide +kernel
theorem dX4_value_165 : decode cX4_value 165 = .ok (.ireturn, 1) := by decide +kernel
theorem dX4_value_166 : decode cX4_value 166 = .ok (.aload_n 0, 1) := by decide +kernel
theorem dX4_value_167 : decode cX4_value 167 = .ok (.getfield 10, 3) := by decide +kernel
theorem dX4_value_170 : decode cX4_value 170 = .ok (.getfield 102, 3) := by decide +kernel
theorem dX4_value_173 : decode cX4_value 173 = .ok (.invokevirtual 221, 3) := by decide +kernel
theorem dX4_value_176 : decode cX4_value 176 = .ok (.ireturn, 1) := by decide +kernel
theorem dX4_value_177 : decode cX4_value 177 = .ok (.new 130, 3) := by decide +kernel
theorem dX4_value_180 : decode cX4_value 180 = .ok (.dup, 1) := by decide +kernel
theorem dX4_value_181 : decode cX4_value 181 = .ok (.ldc 224, 2) := by decide +kernel
theorem dX4_value_183 : decode cX4_value 183 = .ok (.invokespecial 134, 3) := by decide +kernel
theorem dX4_value_186 : decode cX4_value 186 = .ok (.athrow, 1) := by decide +kernel
set_option maxRecDepth 20000 in
theorem ggX4_dispatch_X0_keptDispatches : GoodIn wsX4_dispatch wsX0_keptDispatches := goodIn_r _ [12, 13, 14, 15, 16, 17, 27, 28, 29, 30, 31, 32, 33, 34, 35] (by decide +kernel) (by decide +kernel)
set_option maxRecDepth 20000 in
theorem gX4_dispatch_X0_keptDispatches : GoodIn wsX4_dispatch (wsV RX4 226 RX0 yX0_keptDispatches wsX0_keptDispatches) := goodIn_app (goodIn_of _ (by decide +kernel)) ggX4_dispatch_X0_keptDispatches
set_option maxRecDepth 20000 in
theorem ggX4_dispatch_X0_logPlace : GoodIn wsX4_dispatch wsX0_logPlace := goodIn_r _ [21, 13, 27, 28, 29, 30, 31, 32, 33, 34, 35] (by decide +kernel) (by decide +kernel)
set_option maxRecDepth 20000 in
theorem gX4_dispatch_X0_logPlace : GoodIn wsX4_dispatch (wsV RX4 231 RX0 yX0_logPlace wsX0_logPlace) := goodIn_app (goodIn_of _ (by decide +kernel)) ggX4_dispatch_X0_logPlace
theorem dX4_dispatch_0 : decode cX4_dispatch 0 = .ok (.iload_n 1, 1) := by decide +kernel
theorem dX4_dispatch_1 : decode cX4_dispatch 1 = .ok (.ifCond .lt 14, 3) := by decide +kernel
theorem dX4_dispatch_4 : decode cX4_dispatch 4 = .ok (.iload_n 1, 1) := by decide +kernel
theorem dX4_dispatch_5 : decode cX4_dispatch 5 = .ok (.aload_n 0, 1) := by decide +kernel
theorem dX4_dispatch_6 : decode cX4_dispatch 6 = .ok (.getfield 10, 3) := by decide +kernel
theorem dX4_dispatch_9 : decode cX4_dispatch 9 = .ok (.invokevirtual 226, 3) := by decide +kernel
theorem dX4_dispatch_12 : decode cX4_dispatch 12 = .ok (.if_icmp .lt 13, 3) := by decide +kernel
theorem dX4_dispatch_15 : decode cX4_dispatch 15 = .ok (.new 119, 3) := by decide +kernel
theorem dX4_dispatch_18 : decode cX4_dispatch 18 = .ok (.dup, 1) := by decide +kernel
theorem dX4_dispatch_19 : decode cX4_dispatch 19 = .ok (.ldc 229, 2) := by decide +kernel
theorem dX4_dispatch_21 : decode cX4_dispatch 21 = .ok (.invokespecial 123, 3) := by decide +kernel
theorem dX4_dispatch_24 : decode cX4_dispatch 24 = .ok (.athrow, 1) := by decide +kernel
theorem dX4_dispatch_25 : decode cX4_dispatch 25 = .ok (.aload_n 0, 1) := by decide +kernel
theorem dX4_dispatch_26 : decode cX4_dispatch 26 = .ok (.getfield 10, 3) := by decide +kernel
theorem dX4_dispatch_29 : decode cX4_dispatch 29 = .ok (.iload_n 1, 1) := by decide +kernel
theorem dX4_dispatch_30 : decode cX4_dispatch 30 = .ok (.invokevirtual 231, 3) := by decide +kernel
theorem dX4_dispatch_33 : decode cX4_dispatch 33 = .ok (.istore_n 3, 1) := by decide +kernel
theorem dX4_dispatch_34 : decode cX4_dispatch 34 = .ok (.iload_n 2, 1) := by decide +kernel
theorem dX4_dispatch_35 : decode cX4_dispatch 35 = .ok (.lookupswitch 45 #[(0, 25), (1, 35)], 25) := by decide +kernel
theorem dX4_dispatch_60 : decode cX4_dispatch 60 = .ok (.aload_n 0, 1) := by decide +kernel
theorem dX4_dispatch_61 : decode cX4_dispatch 61 = .ok (.getfield 10, 3) := by decide +kernel
theorem dX4_dispatch_64 : decode cX4_dispatch 64 = .ok (.getfield 234, 3) := by decide +kernel
theorem dX4_dispatch_67 : decode cX4_dispatch 67 = .ok (.iload_n 3, 1) := by decide +kernel
theorem dX4_dispatch_68 : decode cX4_dispatch 68 = .ok (.iaload, 1) := by decide +kernel
theorem dX4_dispatch_69 : decode cX4_dispatch 69 = .ok (.ireturn, 1) := by decide +kernel
theorem dX4_dispatch_70 : decode cX4_dispatch 70 = .ok (.aload_n 0, 1) := by decide +kernel
theorem dX4_dispatch_71 : decode cX4_dispatch 71 = .ok (.getfield 10, 3) := by decide +kernel
theorem dX4_dispatch_74 : decode cX4_dispatch 74 = .ok (.getfield 237, 3) := by decide +kernel
theorem dX4_dispatch_77 : decode cX4_dispatch 77 = .ok (.iload_n 3, 1) := by decide +kernel
theorem dX4_dispatch_78 : decode cX4_dispatch 78 = .ok (.iaload, 1) := by decide +kernel
theorem dX4_dispatch_79 : decode cX4_dispatch 79 = .ok (.ireturn, 1) := by decide +kernel
theorem dX4_dispatch_80 : decode cX4_dispatch 80 = .ok (.new 130, 3) := by decide +kernel
theorem dX4_dispatch_83 : decode cX4_dispatch 83 = .ok (.dup, 1) := by decide +kernel
theorem dX4_dispatch_84 : decode cX4_dispatch 84 = .ok (.ldc 240, 2) := by decide +kernel
theorem dX4_dispatch_86 : decode cX4_dispatch 86 = .ok (.invokespecial 134, 3) := by decide +kernel
theorem dX4_dispatch_89 : decode cX4_dispatch 89 = .ok (.athrow, 1) := by decide +kernel
set_option maxRecDepth 20000 in
theorem ggX4_why_X4_requireTrain : GoodIn wsX4_why wsX4_requireTrain := goodIn_ca (goodIn_r _ [7, 8, 9, 1, 10, 62, 63, 64, 65, 66, 67, 68, 69, 70, 71, 72, 73, 74, 75] (by decide +kernel) (by decide +kernel)) (goodIn_sub (fun _ h => List.mem_cons_of_mem _ (List.mem_append_right _ h)) (by decide +kernel))
set_option maxRecDepth 20000 in
theorem gX4_why_X4_requireTrain : GoodIn wsX4_why (wsV RX4 85 RX4 yX4_requireTrain wsX4_requireTrain) := goodIn_app (goodIn_of _ (by decide +kernel)) ggX4_why_X4_requireTrain
set_option maxRecDepth 20000 in
theorem ggX4_why_X0_reasonOf : GoodIn wsX4_why wsX0_reasonOf := goodIn_r _ [15, 16, 17, 18, 19, 20, 21, 22, 23, 24, 14, 25, 26, 27, 28, 29, 30, 31, 32, 33, 34, 35, 36, 37, 38, 39, 40, 41, 42, 43, 44, 45, 46, 47, 48, 49, 50, 51, 52, 53, 54, 55, 56, 57, 58, 59, 60, 61, 76, 77, 78, 79, 80, 81, 82, 83, 67, 68, 69, 70, 71, 72, 73, 74, 75, 84, 85, 86, 87, 88, 89] (by decide +kernel) (by decide +kernel)
set_option maxRecDepth 20000 in
theorem gX4_why_X0_reasonOf : GoodIn wsX4_why (wsV RX4 242 RX0 yX0_reasonOf wsX0_reasonOf) := goodIn_app (goodIn_of _ (by decide +kernel)) ggX4_why_X0_reasonOf
theorem dX4_why_0 : decode cX4_why 0 = .ok (.aload_n 0, 1) := by decide +kernel
theorem dX4_why_1 : decode cX4_why 1 = .ok (.iload_n 1, 1) := by decide +kernel
theorem dX4_why_2 : decode cX4_why 2 = .ok (.invokevirtual 85, 3) := by decide +kernel
theorem dX4_why_5 : decode cX4_why 5 = .ok (.aload_n 0, 1) := by decide +kernel
theorem dX4_why_6 : decode cX4_why 6 = .ok (.getfield 10, 3) := by decide +kernel
theorem dX4_why_9 : decode cX4_why 9 = .ok (.aload_n 0, 1) := by decide +kernel
theorem dX4_why_10 : decode cX4_why 10 = .ok (.getfield 10, 3) := by decide +kernel
theorem dX4_why_13 : decode cX4_why 13 = .ok (.getfield 88, 3) := by decide +kernel
theorem dX4_why_16 : decode cX4_why 16 = .ok (.iload_n 1, 1) := by decide +kernel
theorem dX4_why_17 : decode cX4_why 17 = .ok (.aaload, 1) := by decide +kernel
theorem dX4_why_18 : decode cX4_why 18 = .ok (.invokevirtual 242, 3) := by decide +kernel
theorem dX4_why_21 : decode cX4_why 21 = .ok (.ireturn, 1) := by decide +kernel
set_option maxRecDepth 20000 in
theorem ggX4_ticksToStation_X4_requireTrain : GoodIn wsX4_ticksToStation wsX4_requireTrain := goodIn_ca (goodIn_r _ [9, 10, 11, 2, 12, 168, 169, 170, 171, 172, 173, 174, 175, 176, 177, 178, 179, 180, 181] (by decide +kernel) (by decide +kernel)) (goodIn_sub (fun _ h => List.mem_cons_of_mem _ (List.mem_append_right _ h)) (by decide +kernel))
set_option maxRecDepth 20000 in
theorem gX4_ticksToStation_X4_requireTrain : GoodIn wsX4_ticksToStation (wsV RX4 85 RX4 yX4_requireTrain wsX4_requireTrain) := goodIn_app (goodIn_of _ (by decide +kernel)) ggX4_ticksToStation_X4_requireTrain
set_option maxRecDepth 20000 in
theorem ggX4_ticksToStation_X0_copyFrom : GoodIn wsX4_ticksToStation wsX0_copyFrom := goodIn_r _ [17, 18, 19, 20, 21, 22, 23, 24, 25, 26, 27, 28, 29, 30, 31, 32, 33, 34, 35, 36, 37, 38, 39, 40, 41, 42, 43, 44, 45, 46, 47, 48, 49, 50, 51, 52, 53, 54, 55, 173, 174, 175, 176, 177, 178, 179, 180, 181, 190, 191, 192, 193, 194, 195, 182, 183, 184, 185, 186, 187, 188, 189] (by decide +kernel) (by decide +kernel)
set_option maxRecDepth 20000 in
theorem gX4_ticksToStation_X0_copyFrom : GoodIn wsX4_ticksToStation (wsV RX4 245 RX0 yX0_copyFrom wsX0_copyFrom) := goodIn_app (goodIn_of _ (by decide +kernel)) ggX4_ticksToStation_X0_copyFrom
set_option maxRecDepth 20000 in
theorem ggX4_ticksToStation_X0_tick : GoodIn wsX4_ticksToStation wsX0_tick := goodIn_r _ [59, 28, 19, 60, 20, 29, 61, 62, 63, 16, 64, 65, 66, 67, 68, 69, 18, 30, 70, 71, 72, 73, 74, 75, 76, 77, 78, 34, 79, 42, 80, 81, 82, 83, 84, 85, 86, 87, 40, 88, 89, 90, 91, 92, 93, 94, 95, 96, 97, 98, 99, 26, 100, 101, 102, 103, 104, 105, 106, 46, 107, 49, 50, 52, 53, 108, 109, 110, 111, 27, 112, 113, 114, 115, 116, 117, 118, 119, 120, 121, 122, 123, 124, 125, 126, 127, 128, 129, 130, 131, 38, 36, 132, 133, 134, 135, 136, 137, 138, 139, 41, 140, 141, 142, 143, 144, 145, 146, 147, 148, 48, 54, 149, 150, 151, 152, 153, 25, 154, 155, 156, 157, 158, 159, 160, 161, 162, 163, 164, 165, 51, 166, 167, 173, 174, 175, 176, 177, 178, 179, 180, 181, 182, 183, 184, 185, 186, 187, 188, 189, 190, 191, 192, 193, 194, 195] (by decide +kernel) (by decide +kernel)
set_option maxRecDepth 20000 in
theorem gX4_ticksToStation_X0_tick : GoodIn wsX4_ticksToStation (wsV RX4 157 RX0 yX0_tick wsX0_tick) := goodIn_app (goodIn_of _ (by decide +kernel)) ggX4_ticksToStation_X0_tick
theorem dX4_ticksToStation_0 : decode cX4_ticksToStation 0 = .ok (.aload_n 0, 1) := by decide +kernel
theorem dX4_ticksToStation_1 : decode cX4_ticksToStation 1 = .ok (.iload_n 1, 1) := by decide +kernel
theorem dX4_ticksToStation_2 : decode cX4_ticksToStation 2 = .ok (.invokevirtual 85, 3) := by decide +kernel
theorem dX4_ticksToStation_5 : decode cX4_ticksToStation 5 = .ok (.aload_n 0, 1) := by decide +kernel
theorem dX4_ticksToStation_6 : decode cX4_ticksToStation 6 = .ok (.getfield 16, 3) := by decide +kernel
theorem dX4_ticksToStation_9 : decode cX4_ticksToStation 9 = .ok (.aload_n 0, 1) := by decide +kernel
theorem dX4_ticksToStation_10 : decode cX4_ticksToStation 10 = .ok (.getfield 10, 3) := by decide +kernel
theorem dX4_ticksToStation_13 : decode cX4_ticksToStation 13 = .ok (.invokevirtual 245, 3) := by decide +kernel
theorem dX4_ticksToStation_16 : decode cX4_ticksToStation 16 = .ok (.aload_n 0, 1) := by decide +kernel
theorem dX4_ticksToStation_17 : decode cX4_ticksToStation 17 = .ok (.getfield 10, 3) := by decide +kernel
theorem dX4_ticksToStation_20 : decode cX4_ticksToStation 20 = .ok (.getfield 88, 3) := by decide +kernel
theorem dX4_ticksToStation_23 : decode cX4_ticksToStation 23 = .ok (.iload_n 1, 1) := by decide +kernel
theorem dX4_ticksToStation_24 : decode cX4_ticksToStation 24 = .ok (.aaload, 1) := by decide +kernel
theorem dX4_ticksToStation_25 : decode cX4_ticksToStation 25 = .ok (.getfield 178, 3) := by decide +kernel
theorem dX4_ticksToStation_28 : decode cX4_ticksToStation 28 = .ok (.istore_n 2, 1) := by decide +kernel
theorem dX4_ticksToStation_29 : decode cX4_ticksToStation 29 = .ok (.iconst 1, 1) := by decide +kernel
theorem dX4_ticksToStation_30 : decode cX4_ticksToStation 30 = .ok (.istore_n 3, 1) := by decide +kernel
theorem dX4_ticksToStation_31 : decode cX4_ticksToStation 31 = .ok (.iload_n 3, 1) := by decide +kernel
theorem dX4_ticksToStation_32 : decode cX4_ticksToStation 32 = .ok (.sipush 2000, 3) := by decide +kernel
theorem dX4_ticksToStation_35 : decode cX4_ticksToStation 35 = .ok (.if_icmp .gt 34, 3) := by decide +kernel
theorem dX4_ticksToStation_38 : decode cX4_ticksToStation 38 = .ok (.aload_n 0, 1) := by decide +kernel
theorem dX4_ticksToStation_39 : decode cX4_ticksToStation 39 = .ok (.getfield 16, 3) := by decide +kernel
theorem dX4_ticksToStation_42 : decode cX4_ticksToStation 42 = .ok (.invokevirtual 157, 3) := by decide +kernel
theorem dX4_ticksToStation_45 : decode cX4_ticksToStation 45 = .ok (.aload_n 0, 1) := by decide +kernel
theorem dX4_ticksToStation_46 : decode cX4_ticksToStation 46 = .ok (.getfield 16, 3) := by decide +kernel
theorem dX4_ticksToStation_49 : decode cX4_ticksToStation 49 = .ok (.getfield 88, 3) := by decide +kernel
theorem dX4_ticksToStation_52 : decode cX4_ticksToStation 52 = .ok (.iload_n 1, 1) := by decide +kernel
theorem dX4_ticksToStation_53 : decode cX4_ticksToStation 53 = .ok (.aaload, 1) := by decide +kernel
theorem dX4_ticksToStation_54 : decode cX4_ticksToStation 54 = .ok (.getfield 178, 3) := by decide +kernel
theorem dX4_ticksToStation_57 : decode cX4_ticksToStation 57 = .ok (.iload_n 2, 1) := by decide +kernel
theorem dX4_ticksToStation_58 : decode cX4_ticksToStation 58 = .ok (.if_icmp .le 5, 3) := by decide +kernel
theorem dX4_ticksToStation_61 : decode cX4_ticksToStation 61 = .ok (.iload_n 3, 1) := by decide +kernel
theorem dX4_ticksToStation_62 : decode cX4_ticksToStation 62 = .ok (.ireturn, 1) := by decide +kernel
theorem dX4_ticksToStation_63 : decode cX4_ticksToStation 63 = .ok (.iinc 3 1, 3) := by decide +kernel
theorem dX4_ticksToStation_66 : decode cX4_ticksToStation 66 = .ok (.goto (-35), 3) := by decide +kernel
theorem dX4_ticksToStation_69 : decode cX4_ticksToStation 69 = .ok (.iconst (-1), 1) := by decide +kernel
theorem dX4_ticksToStation_70 : decode cX4_ticksToStation 70 = .ok (.ireturn, 1) := by decide +kernel
set_option maxRecDepth 20000 in
theorem ggX4_ticksToValley_X4_nextValley : GoodIn wsX4_ticksToValley wsX4_nextValley := goodIn_r _ [7, 8, 1, 2, 9, 10, 11, 12, 13, 14, 15, 16, 17, 18, 19, 20, 21, 22, 23, 24, 25, 26, 27, 28, 29, 30, 31, 32, 33, 34, 35, 36, 37, 38, 39, 40, 41, 42, 43, 44, 45, 46, 47, 48, 49, 50, 51, 52, 53, 54, 55, 56, 57, 58, 59, 60, 61, 62, 63, 64, 65, 66, 67, 68, 69, 70, 71, 72, 73, 74, 75, 76, 77, 78, 79, 80, 81, 82, 83, 84, 85, 86, 87, 88, 89, 90, 91, 92, 93, 94, 95, 96, 97, 98, 99, 100, 101, 102, 103, 104, 105, 106, 107, 108, 109, 110, 111, 112, 113, 114, 115, 116, 117, 118, 119, 120, 121, 122, 123, 124, 125, 126, 127, 128, 129, 130, 131, 132, 133, 134, 135, 136, 137, 138, 139, 140, 141, 142, 143, 144, 145, 146, 147, 148, 149, 150, 151, 152, 153, 154, 155, 156, 157, 158, 159, 160, 161, 162, 163, 164, 165, 166, 167, 168, 169, 170, 171, 172, 173, 174, 175, 176, 177, 178, 179, 180, 181, 182, 183, 184, 185, 186, 187, 188, 189, 190, 191, 192, 193, 194, 195] (by decide +kernel) (by decide +kernel)
set_option maxRecDepth 20000 in
theorem gX4_ticksToValley_X4_nextValley : GoodIn wsX4_ticksToValley (wsV RX4 249 RX4 yX4_nextValley wsX4_nextValley) := goodIn_app (goodIn_of _ (by decide +kernel)) ggX4_ticksToValley_X4_nextValley
theorem dX4_ticksToValley_0 : decode cX4_ticksToValley 0 = .ok (.aload_n 0, 1) := by decide +kernel
theorem dX4_ticksToValley_1 : decode cX4_ticksToValley 1 = .ok (.aload_n 0, 1) := by decide +kernel
theorem dX4_ticksToValley_2 : decode cX4_ticksToValley 2 = .ok (.getfield 10, 3) := by decide +kernel
theorem dX4_ticksToValley_5 : decode cX4_ticksToValley 5 = .ok (.getfield 135, 3) := by decide +kernel
theorem dX4_ticksToValley_8 : decode cX4_ticksToValley 8 = .ok (.iconst 0, 1) := by decide +kernel
theorem dX4_ticksToValley_9 : decode cX4_ticksToValley 9 = .ok (.iaload, 1) := by decide +kernel
theorem dX4_ticksToValley_10 : decode cX4_ticksToValley 10 = .ok (.sipush 2000, 3) := by decide +kernel
theorem dX4_ticksToValley_13 : decode cX4_ticksToValley 13 = .ok (.invokevirtual 249, 3) := by decide +kernel
theorem dX4_ticksToValley_16 : decode cX4_ticksToValley 16 = .ok (.ireturn, 1) := by decide +kernel
set_option maxRecDepth 20000 in
theorem ggX4_dispatchesWith_X0_copyFrom : GoodIn wsX4_dispatchesWith wsX0_copyFrom := goodIn_r _ [13, 14, 15, 16, 17, 18, 19, 20, 21, 22, 23, 24, 25, 26, 27, 28, 29, 30, 31, 32, 33, 34, 35, 36, 37, 38, 39, 40, 41, 42, 43, 44, 45, 46, 47, 48, 49, 50, 51, 169, 170, 171, 172, 173, 174, 175, 176, 177, 178, 179, 180, 181, 182, 183, 184, 185, 186, 187, 188, 189, 190, 191] (by decide +kernel) (by decide +kernel)
set_option maxRecDepth 20000 in
theorem gX4_dispatchesWith_X0_copyFrom : GoodIn wsX4_dispatchesWith (wsV RX4 245 RX0 yX0_copyFrom wsX0_copyFrom) := goodIn_app (goodIn_of _ (by decide +kernel)) ggX4_dispatchesWith_X0_copyFrom
set_option maxRecDepth 20000 in
theorem ggX4_dispatchesWith_X0_tick : GoodIn wsX4_dispatchesWith wsX0_tick := goodIn_r _ [55, 24, 15, 56, 16, 25, 57, 58, 59, 12, 60, 61, 62, 63, 64, 65, 14, 26, 66, 67, 68, 69, 70, 71, 72, 73, 74, 30, 75, 38, 76, 77, 78, 79, 80, 81, 82, 83, 36, 84, 85, 86, 87, 88, 89, 90, 91, 92, 93, 94, 95, 22, 96, 97, 98, 99, 100, 101, 102, 42, 103, 45, 46, 48, 49, 104, 105, 106, 107, 23, 108, 109, 110, 111, 112, 113, 114, 115, 116, 117, 118, 119, 120, 121, 122, 123, 124, 125, 126, 127, 34, 32, 128, 129, 130, 131, 132, 133, 134, 135, 37, 136, 137, 138, 139, 140, 141, 142, 143, 144, 44, 50, 145, 146, 147, 148, 149, 21, 150, 151, 152, 153, 154, 155, 156, 157, 158, 159, 160, 161, 47, 162, 163, 169, 170, 171, 172, 173, 174, 175, 176, 177, 184, 185, 186, 187, 188, 189, 190, 191, 178, 179, 180, 181, 182, 183] (by decide +kernel) (by decide +kernel)
set_option maxRecDepth 20000 in
theorem gX4_dispatchesWith_X0_tick : GoodIn wsX4_dispatchesWith (wsV RX4 157 RX0 yX0_tick wsX0_tick) := goodIn_app (goodIn_of _ (by decide +kernel)) ggX4_dispatchesWith_X0_tick
theorem dX4_dispatchesWith_0 : decode cX4_dispatchesWith 0 = .ok (.iload_n 1, 1) := by decide +kernel
theorem dX4_dispatchesWith_1 : decode cX4_dispatchesWith 1 = .ok (.getstatic 124, 3) := by decide +kernel
theorem dX4_dispatchesWith_4 : decode cX4_dispatchesWith 4 = .ok (.iconst 2, 1) := by decide +kernel
theorem dX4_dispatchesWith_5 : decode cX4_dispatchesWith 5 = .ok (.iaload, 1) := by decide +kernel
theorem dX4_dispatchesWith_6 : decode cX4_dispatchesWith 6 = .ok (.if_icmp .lt 12, 3) := by decide +kernel
theorem dX4_dispatchesWith_9 : decode cX4_dispatchesWith 9 = .ok (.iload_n 1, 1) := by decide +kernel
theorem dX4_dispatchesWith_10 : decode cX4_dispatchesWith 10 = .ok (.getstatic 127, 3) := by decide +kernel
theorem dX4_dispatchesWith_13 : decode cX4_dispatchesWith 13 = .ok (.iconst 2, 1) := by decide +kernel
theorem dX4_dispatchesWith_14 : decode cX4_dispatchesWith 14 = .ok (.iaload, 1) := by decide +kernel
theorem dX4_dispatchesWith_15 : decode cX4_dispatchesWith 15 = .ok (.if_icmp .le 13, 3) := by decide +kernel
theorem dX4_dispatchesWith_18 : decode cX4_dispatchesWith 18 = .ok (.new 130, 3) := by decide +kernel
theorem dX4_dispatchesWith_21 : decode cX4_dispatchesWith 21 = .ok (.dup, 1) := by decide +kernel
theorem dX4_dispatchesWith_22 : decode cX4_dispatchesWith 22 = .ok (.ldc 253, 2) := by decide +kernel
theorem dX4_dispatchesWith_24 : decode cX4_dispatchesWith 24 = .ok (.invokespecial 134, 3) := by decide +kernel
theorem dX4_dispatchesWith_27 : decode cX4_dispatchesWith 27 = .ok (.athrow, 1) := by decide +kernel
theorem dX4_dispatchesWith_28 : decode cX4_dispatchesWith 28 = .ok (.aload_n 0, 1) := by decide +kernel
theorem dX4_dispatchesWith_29 : decode cX4_dispatchesWith 29 = .ok (.getfield 16, 3) := by decide +kernel
theorem dX4_dispatchesWith_32 : decode cX4_dispatchesWith 32 = .ok (.aload_n 0, 1) := by decide +kernel
theorem dX4_dispatchesWith_33 : decode cX4_dispatchesWith 33 = .ok (.getfield 10, 3) := by decide +kernel
theorem dX4_dispatchesWith_36 : decode cX4_dispatchesWith 36 = .ok (.invokevirtual 245, 3) := by decide +kernel
theorem dX4_dispatchesWith_39 : decode cX4_dispatchesWith 39 = .ok (.aload_n 0, 1) := by decide +kernel
theorem dX4_dispatchesWith_40 : decode cX4_dispatchesWith 40 = .ok (.getfield 16, 3) := by decide +kernel
theorem dX4_dispatchesWith_43 : decode cX4_dispatchesWith 43 = .ok (.getfield 135, 3) := by decide +kernel
theorem dX4_dispatchesWith_46 : decode cX4_dispatchesWith 46 = .ok (.iconst 2, 1) := by decide +kernel
theorem dX4_dispatchesWith_47 : decode cX4_dispatchesWith 47 = .ok (.iload_n 1, 1) := by decide +kernel
theorem dX4_dispatchesWith_48 : decode cX4_dispatchesWith 48 = .ok (.iastore, 1) := by decide +kernel
theorem dX4_dispatchesWith_49 : decode cX4_dispatchesWith 49 = .ok (.iconst 0, 1) := by decide +kernel
theorem dX4_dispatchesWith_50 : decode cX4_dispatchesWith 50 = .ok (.istore_n 2, 1) := by decide +kernel
theorem dX4_dispatchesWith_51 : decode cX4_dispatchesWith 51 = .ok (.iload_n 2, 1) := by decide +kernel
theorem dX4_dispatchesWith_52 : decode cX4_dispatchesWith 52 = .ok (.sipush 1000, 3) := by decide +kernel
theorem dX4_dispatchesWith_55 : decode cX4_dispatchesWith 55 = .ok (.if_icmp .ge 16, 3) := by decide +kernel
theorem dX4_dispatchesWith_58 : decode cX4_dispatchesWith 58 = .ok (.aload_n 0, 1) := by decide +kernel
theorem dX4_dispatchesWith_59 : decode cX4_dispatchesWith 59 = .ok (.getfield 16, 3) := by decide +kernel
theorem dX4_dispatchesWith_62 : decode cX4_dispatchesWith 62 = .ok (.invokevirtual 157, 3) := by decide +kernel
theorem dX4_dispatchesWith_65 : decode cX4_dispatchesWith 65 = .ok (.iinc 2 1, 3) := by decide +kernel
theorem dX4_dispatchesWith_68 : decode cX4_dispatchesWith 68 = .ok (.goto (-17), 3) := by decide +kernel
theorem dX4_dispatchesWith_71 : decode cX4_dispatchesWith 71 = .ok (.aload_n 0, 1) := by decide +kernel
theorem dX4_dispatchesWith_72 : decode cX4_dispatchesWith 72 = .ok (.getfield 16, 3) := by decide +kernel
theorem dX4_dispatchesWith_75 : decode cX4_dispatchesWith 75 = .ok (.getfield 154, 3) := by decide +kernel
theorem dX4_dispatchesWith_78 : decode cX4_dispatchesWith 78 = .ok (.aload_n 0, 1) := by decide +kernel
theorem dX4_dispatchesWith_79 : decode cX4_dispatchesWith 79 = .ok (.getfield 10, 3) := by decide +kernel
theorem dX4_dispatchesWith_82 : decode cX4_dispatchesWith 82 = .ok (.getfield 154, 3) := by decide +kernel
theorem dX4_dispatchesWith_85 : decode cX4_dispatchesWith 85 = .ok (.isub, 1) := by decide +kernel
theorem dX4_dispatchesWith_86 : decode cX4_dispatchesWith 86 = .ok (.ireturn, 1) := by decide +kernel
set_option maxRecDepth 20000 in
theorem ggX4_mostFriction_X4_nextValley : GoodIn wsX4_mostFriction wsX4_nextValley := goodIn_r _ [7, 8, 9, 10, 11, 12, 13, 14, 15, 16, 17, 18, 19, 20, 21, 22, 23, 24, 25, 26, 27, 28, 29, 30, 31, 32, 33, 34, 35, 36, 37, 38, 39, 40, 41, 42, 43, 44, 45, 46, 47, 48, 49, 50, 51, 52, 53, 54, 55, 56, 57, 58, 59, 60, 61, 62, 63, 64, 65, 66, 67, 68, 69, 70, 71, 72, 73, 74, 75, 76, 77, 78, 79, 80, 81, 82, 83, 84, 85, 86, 87, 88, 89, 90, 91, 92, 93, 94, 95, 96, 97, 98, 99, 100, 101, 102, 103, 104, 105, 106, 107, 108, 109, 110, 111, 112, 113, 114, 115, 116, 117, 118, 119, 120, 121, 122, 123, 124, 125, 126, 127, 128, 129, 130, 131, 132, 133, 134, 135, 136, 137, 138, 139, 140, 141, 142, 143, 144, 145, 146, 147, 148, 149, 150, 151, 152, 153, 154, 155, 156, 157, 158, 159, 160, 161, 162, 163, 164, 165, 166, 167, 168, 169, 170, 171, 172, 173, 174, 175, 176, 177, 178, 179, 180, 181, 182, 183, 184, 185, 186, 187, 188, 189, 190, 191, 192, 193, 194, 195, 196, 197] (by decide +kernel) (by decide +kernel)
set_option maxRecDepth 20000 in
theorem gX4_mostFriction_X4_nextValley : GoodIn wsX4_mostFriction (wsV RX4 249 RX4 yX4_nextValley wsX4_nextValley) := goodIn_app (goodIn_of _ (by decide +kernel)) ggX4_mostFriction_X4_nextValley
theorem dX4_mostFriction_0 : decode cX4_mostFriction 0 = .ok (.getstatic 127, 3) := by decide +kernel
theorem dX4_mostFriction_3 : decode cX4_mostFriction 3 = .ok (.iconst 0, 1) := by decide +kernel
theorem dX4_mostFriction_4 : decode cX4_mostFriction 4 = .ok (.iaload, 1) := by decide +kernel
theorem dX4_mostFriction_5 : decode cX4_mostFriction 5 = .ok (.istore_n 1, 1) := by decide +kernel
theorem dX4_mostFriction_6 : decode cX4_mostFriction 6 = .ok (.iload_n 1, 1) := by decide +kernel
theorem dX4_mostFriction_7 : decode cX4_mostFriction 7 = .ok (.getstatic 124, 3) := by decide +kernel
theorem dX4_mostFriction_10 : decode cX4_mostFriction 10 = .ok (.iconst 0, 1) := by decide +kernel
theorem dX4_mostFriction_11 : decode cX4_mostFriction 11 = .ok (.iaload, 1) := by decide +kernel
theorem dX4_mostFriction_12 : decode cX4_mostFriction 12 = .ok (.if_icmp .lt 23, 3) := by decide +kernel
theorem dX4_mostFriction_15 : decode cX4_mostFriction 15 = .ok (.aload_n 0, 1) := by decide +kernel
theorem dX4_mostFriction_16 : decode cX4_mostFriction 16 = .ok (.iload_n 1, 1) := by decide +kernel
theorem dX4_mostFriction_17 : decode cX4_mostFriction 17 = .ok (.sipush 500, 3) := by decide +kernel
theorem dX4_mostFriction_20 : decode cX4_mostFriction 20 = .ok (.invokevirtual 249, 3) := by decide +kernel
theorem dX4_mostFriction_23 : decode cX4_mostFriction 23 = .ok (.iconst (-1), 1) := by decide +kernel
theorem dX4_mostFriction_24 : decode cX4_mostFriction 24 = .ok (.if_icmp .ne 5, 3) := by decide +kernel
theorem dX4_mostFriction_27 : decode cX4_mostFriction 27 = .ok (.iload_n 1, 1) := by decide +kernel
theorem dX4_mostFriction_28 : decode cX4_mostFriction 28 = .ok (.ireturn, 1) := by decide +kernel
theorem dX4_mostFriction_29 : decode cX4_mostFriction 29 = .ok (.iinc 1 (-1), 3) := by decide +kernel
theorem dX4_mostFriction_32 : decode cX4_mostFriction 32 = .ok (.goto (-26), 3) := by decide +kernel
theorem dX4_mostFriction_35 : decode cX4_mostFriction 35 = .ok (.iconst (-1), 1) := by decide +kernel
theorem dX4_mostFriction_36 : decode cX4_mostFriction 36 = .ok (.ireturn, 1) := by decide +kernel
set_option maxRecDepth 20000 in
theorem ggX4_leastSquare_X4_requireCell : GoodIn wsX4_leastSquare wsX4_requireCell := goodIn_ca (goodIn_r _ [8, 9, 10, 1, 2, 11, 40, 41, 42, 43, 44, 45, 46, 47, 48, 49, 50, 51, 52, 53, 54, 55, 56, 57, 58, 59] (by decide +kernel) (by decide +kernel)) (goodIn_sub (fun _ h => List.mem_cons_of_mem _ (List.mem_append_right _ h)) (by decide +kernel))
set_option maxRecDepth 20000 in
theorem gX4_leastSquare_X4_requireCell : GoodIn wsX4_leastSquare (wsV RX4 138 RX4 yX4_requireCell wsX4_requireCell) := goodIn_app (goodIn_of _ (by decide +kernel)) ggX4_leastSquare_X4_requireCell
set_option maxRecDepth 20000 in
theorem ggX4_leastSquare_X1_leastSquareToBrake : GoodIn wsX4_leastSquare wsX1_leastSquareToBrake := goodIn_r _ [16, 17, 18, 19, 15, 20, 21, 22, 23, 24, 25, 26, 27, 28, 29, 30, 31, 32, 33, 34, 35, 36, 37, 38, 39, 54, 55, 56, 57, 58, 59] (by decide +kernel) (by decide +kernel)
set_option maxRecDepth 20000 in
theorem gX4_leastSquare_X1_leastSquareToBrake : GoodIn wsX4_leastSquare (wsV RX4 255 RX1 yX1_leastSquareToBrake wsX1_leastSquareToBrake) := goodIn_app (goodIn_of _ (by decide +kernel)) ggX4_leastSquare_X1_leastSquareToBrake
theorem dX4_leastSquare_0 : decode cX4_leastSquare 0 = .ok (.aload_n 0, 1) := by decide +kernel
theorem dX4_leastSquare_1 : decode cX4_leastSquare 1 = .ok (.iload_n 1, 1) := by decide +kernel
theorem dX4_leastSquare_2 : decode cX4_leastSquare 2 = .ok (.invokevirtual 138, 3) := by decide +kernel
theorem dX4_leastSquare_5 : decode cX4_leastSquare 5 = .ok (.aload_n 0, 1) := by decide +kernel
theorem dX4_leastSquare_6 : decode cX4_leastSquare 6 = .ok (.getfield 10, 3) := by decide +kernel
theorem dX4_leastSquare_9 : decode cX4_leastSquare 9 = .ok (.getfield 102, 3) := by decide +kernel
theorem dX4_leastSquare_12 : decode cX4_leastSquare 12 = .ok (.iload_n 1, 1) := by decide +kernel
theorem dX4_leastSquare_13 : decode cX4_leastSquare 13 = .ok (.aload_n 0, 1) := by decide +kernel
theorem dX4_leastSquare_14 : decode cX4_leastSquare 14 = .ok (.getfield 10, 3) := by decide +kernel
theorem dX4_leastSquare_17 : decode cX4_leastSquare 17 = .ok (.getfield 135, 3) := by decide +kernel
theorem dX4_leastSquare_20 : decode cX4_leastSquare 20 = .ok (.iconst 0, 1) := by decide +kernel
theorem dX4_leastSquare_21 : decode cX4_leastSquare 21 = .ok (.iaload, 1) := by decide +kernel
theorem dX4_leastSquare_22 : decode cX4_leastSquare 22 = .ok (.invokevirtual 255, 3) := by decide +kernel
theorem dX4_leastSquare_25 : decode cX4_leastSquare 25 = .ok (.ireturn, 1) := by decide +kernel
theorem dX4_meanWarmth_0 : decode cX4_meanWarmth 0 = .ok (.aload_n 0, 1) := by decide +kernel
theorem dX4_meanWarmth_1 : decode cX4_meanWarmth 1 = .ok (.getfield 10, 3) := by decide +kernel
theorem dX4_meanWarmth_4 : decode cX4_meanWarmth 4 = .ok (.getfield 61, 3) := by decide +kernel
theorem dX4_meanWarmth_7 : decode cX4_meanWarmth 7 = .ok (.ifCond .ne 5, 3) := by decide +kernel
theorem dX4_meanWarmth_10 : decode cX4_meanWarmth 10 = .ok (.dconst 0, 1) := by decide +kernel
theorem dX4_meanWarmth_11 : decode cX4_meanWarmth 11 = .ok (.dreturn, 1) := by decide +kernel
theorem dX4_meanWarmth_12 : decode cX4_meanWarmth 12 = .ok (.iconst 0, 1) := by decide +kernel
theorem dX4_meanWarmth_13 : decode cX4_meanWarmth 13 = .ok (.istore_n 1, 1) := by decide +kernel
theorem dX4_meanWarmth_14 : decode cX4_meanWarmth 14 = .ok (.iconst 0, 1) := by decide +kernel
theorem dX4_meanWarmth_15 : decode cX4_meanWarmth 15 = .ok (.istore_n 2, 1) := by decide +kernel
theorem dX4_meanWarmth_16 : decode cX4_meanWarmth 16 = .ok (.iload_n 2, 1) := by decide +kernel
theorem dX4_meanWarmth_17 : decode cX4_meanWarmth 17 = .ok (.aload_n 0, 1) := by decide +kernel
theorem dX4_meanWarmth_18 : decode cX4_meanWarmth 18 = .ok (.getfield 10, 3) := by decide +kernel
theorem dX4_meanWarmth_21 : decode cX4_meanWarmth 21 = .ok (.getfield 61, 3) := by decide +kernel
theorem dX4_meanWarmth_24 : decode cX4_meanWarmth 24 = .ok (.if_icmp .ge 24, 3) := by decide +kernel
theorem dX4_meanWarmth_27 : decode cX4_meanWarmth 27 = .ok (.iload_n 1, 1) := by decide +kernel
theorem dX4_meanWarmth_28 : decode cX4_meanWarmth 28 = .ok (.aload_n 0, 1) := by decide +kernel
theorem dX4_meanWarmth_29 : decode cX4_meanWarmth 29 = .ok (.getfield 10, 3) := by decide +kernel
theorem dX4_meanWarmth_32 : decode cX4_meanWarmth 32 = .ok (.getfield 88, 3) := by decide +kernel
theorem dX4_meanWarmth_35 : decode cX4_meanWarmth 35 = .ok (.iload_n 2, 1) := by decide +kernel
theorem dX4_meanWarmth_36 : decode cX4_meanWarmth 36 = .ok (.aaload, 1) := by decide +kernel
theorem dX4_meanWarmth_37 : decode cX4_meanWarmth 37 = .ok (.getfield 166, 3) := by decide +kernel
theorem dX4_meanWarmth_40 : decode cX4_meanWarmth 40 = .ok (.iadd, 1) := by decide +kernel
theorem dX4_meanWarmth_41 : decode cX4_meanWarmth 41 = .ok (.istore_n 1, 1) := by decide +kernel
theorem dX4_meanWarmth_42 : decode cX4_meanWarmth 42 = .ok (.iinc 2 1, 3) := by decide +kernel
theorem dX4_meanWarmth_45 : decode cX4_meanWarmth 45 = .ok (.goto (-29), 3) := by decide +kernel
theorem dX4_meanWarmth_48 : decode cX4_meanWarmth 48 = .ok (.iload_n 1, 1) := by decide +kernel
theorem dX4_meanWarmth_49 : decode cX4_meanWarmth 49 = .ok (.i2d, 1) := by decide +kernel
theorem dX4_meanWarmth_50 : decode cX4_meanWarmth 50 = .ok (.aload_n 0, 1) := by decide +kernel
theorem dX4_meanWarmth_51 : decode cX4_meanWarmth 51 = .ok (.getfield 10, 3) := by decide +kernel
theorem dX4_meanWarmth_54 : decode cX4_meanWarmth 54 = .ok (.getfield 61, 3) := by decide +kernel
theorem dX4_meanWarmth_57 : decode cX4_meanWarmth 57 = .ok (.i2d, 1) := by decide +kernel
theorem dX4_meanWarmth_58 : decode cX4_meanWarmth 58 = .ok (.ddiv, 1) := by decide +kernel
theorem dX4_meanWarmth_59 : decode cX4_meanWarmth 59 = .ok (.dreturn, 1) := by decide +kernel
set_option maxRecDepth 20000 in
theorem ggX4_append_X2_add : GoodIn wsX4_append wsX2_add := goodIn_r _ [11, 12, 13, 19, 20] (by decide +kernel) (by decide +kernel)
set_option maxRecDepth 20000 in
theorem gX4_append_X2_add : GoodIn wsX4_append (wsV RX4 54 RX2 yX2_add wsX2_add) := goodIn_app (goodIn_of _ (by decide +kernel)) ggX4_append_X2_add
theorem dX4_append_0 : decode cX4_append 0 = .ok (.iload_n 1, 1) := by decide +kernel
theorem dX4_append_1 : decode cX4_append 1 = .ok (.ifCond .lt 9, 3) := by decide +kernel
theorem dX4_append_4 : decode cX4_append 4 = .ok (.iload_n 1, 1) := by decide +kernel
theorem dX4_append_5 : decode cX4_append 5 = .ok (.bipush 127, 2) := by decide +kernel
theorem dX4_append_7 : decode cX4_append 7 = .ok (.if_icmp .le 14, 3) := by decide +kernel
theorem dX4_append_10 : decode cX4_append 10 = .ok (.new 130, 3) := by decide +kernel
theorem dX4_append_13 : decode cX4_append 13 = .ok (.dup, 1) := by decide +kernel
theorem dX4_append_14 : decode cX4_append 14 = .ok (.ldc_w 258, 3) := by decide +kernel
theorem dX4_append_17 : decode cX4_append 17 = .ok (.invokespecial 134, 3) := by decide +kernel
theorem dX4_append_20 : decode cX4_append 20 = .ok (.athrow, 1) := by decide +kernel
theorem dX4_append_21 : decode cX4_append 21 = .ok (.aload_n 0, 1) := by decide +kernel
theorem dX4_append_22 : decode cX4_append 22 = .ok (.getfield 30, 3) := by decide +kernel
theorem dX4_append_25 : decode cX4_append 25 = .ok (.getfield 260, 3) := by decide +kernel
theorem dX4_append_28 : decode cX4_append 28 = .ok (.bipush 90, 2) := by decide +kernel
theorem dX4_append_30 : decode cX4_append 30 = .ok (.if_icmp .ne 14, 3) := by decide +kernel
theorem dX4_append_33 : decode cX4_append 33 = .ok (.new 64, 3) := by decide +kernel
theorem dX4_append_36 : decode cX4_append 36 = .ok (.dup, 1) := by decide +kernel
theorem dX4_append_37 : decode cX4_append 37 = .ok (.ldc_w 262, 3) := by decide +kernel
theorem dX4_append_40 : decode cX4_append 40 = .ok (.invokespecial 68, 3) := by decide +kernel
theorem dX4_append_43 : decode cX4_append 43 = .ok (.athrow, 1) := by decide +kernel
theorem dX4_append_44 : decode cX4_append 44 = .ok (.aload_n 0, 1) := by decide +kernel
theorem dX4_append_45 : decode cX4_append 45 = .ok (.getfield 30, 3) := by decide +kernel
theorem dX4_append_48 : decode cX4_append 48 = .ok (.iload_n 1, 1) := by decide +kernel
theorem dX4_append_49 : decode cX4_append 49 = .ok (.invokevirtual 54, 3) := by decide +kernel
theorem dX4_append_52 : decode cX4_append 52 = .ok (.aload_n 0, 1) := by decide +kernel
theorem dX4_append_53 : decode cX4_append 53 = .ok (.getfield 30, 3) := by decide +kernel
theorem dX4_append_56 : decode cX4_append 56 = .ok (.getfield 260, 3) := by decide +kernel
theorem dX4_append_59 : decode cX4_append 59 = .ok (.ireturn, 1) := by decide +kernel
set_option maxRecDepth 20000 in
theorem ggX4_clearText_X2_clear : GoodIn wsX4_clearText wsX2_clear := goodIn_r _ [7, 8, 14, 15] (by decide +kernel) (by decide +kernel)
set_option maxRecDepth 20000 in
theorem gX4_clearText_X2_clear : GoodIn wsX4_clearText (wsV RX4 264 RX2 yX2_clear wsX2_clear) := goodIn_app (goodIn_of _ (by decide +kernel)) ggX4_clearText_X2_clear
theorem dX4_clearText_0 : decode cX4_clearText 0 = .ok (.aload_n 0, 1) := by decide +kernel
theorem dX4_clearText_1 : decode cX4_clearText 1 = .ok (.getfield 30, 3) := by decide +kernel
theorem dX4_clearText_4 : decode cX4_clearText 4 = .ok (.getfield 260, 3) := by decide +kernel
theorem dX4_clearText_7 : decode cX4_clearText 7 = .ok (.istore_n 1, 1) := by decide +kernel
theorem dX4_clearText_8 : decode cX4_clearText 8 = .ok (.aload_n 0, 1) := by decide +kernel
theorem dX4_clearText_9 : decode cX4_clearText 9 = .ok (.getfield 30, 3) := by decide +kernel
theorem dX4_clearText_12 : decode cX4_clearText 12 = .ok (.invokevirtual 264, 3) := by decide +kernel
theorem dX4_clearText_15 : decode cX4_clearText 15 = .ok (.iload_n 1, 1) := by decide +kernel
theorem dX4_clearText_16 : decode cX4_clearText 16 = .ok (.ireturn, 1) := by decide +kernel
set_option maxRecDepth 20000 in
theorem ggX4_parse_X2_errorPosition : GoodIn wsX4_parse wsX2_errorPosition := goodIn_r _ [9, 10, 11, 12, 13, 14, 8, 15, 16, 17, 18, 19, 107, 108] (by decide +kernel) (by decide +kernel)
set_option maxRecDepth 20000 in
theorem gX4_parse_X2_errorPosition : GoodIn wsX4_parse (wsV RX4 267 RX2 yX2_errorPosition wsX2_errorPosition) := goodIn_app (goodIn_of _ (by decide +kernel)) ggX4_parse_X2_errorPosition
set_option maxRecDepth 20000 in
theorem ggX4_parse_X4_save : GoodIn wsX4_parse wsX4_save := goodIn_r _ [24, 25, 26, 2, 27, 28, 29, 30, 31, 32, 33, 34, 35, 36, 37, 38, 39, 40, 41, 42, 43, 44, 45, 46, 47, 48, 49, 50, 51, 52, 53, 54, 55, 56, 57, 58, 59, 60, 61, 62, 63, 64, 65, 66, 67, 68, 69, 87, 88, 89, 90, 91, 92, 93, 94, 95, 96, 97, 98, 99, 100, 101, 102, 103, 104, 105, 106, 109, 110, 111, 112, 113, 114, 115, 116] (by decide +kernel) (by decide +kernel)
set_option maxRecDepth 20000 in
theorem gX4_parse_X4_save : GoodIn wsX4_parse (wsV RX4 77 RX4 yX4_save wsX4_save) := goodIn_app (goodIn_of _ (by decide +kernel)) ggX4_parse_X4_save
set_option maxRecDepth 20000 in
theorem ggX4_parse_X0_begin : GoodIn wsX4_parse wsX0_begin := goodIn_r _ [73, 32, 42, 43, 44, 39, 74, 75, 76, 48, 77, 78, 55, 56, 50, 79, 52, 53, 54, 80, 81, 82, 83, 84, 85, 86, 92, 93, 94, 95, 96, 97, 98, 99, 100, 107, 108, 101, 102, 103, 104, 105, 106] (by decide +kernel) (by decide +kernel)
set_option maxRecDepth 20000 in
theorem gX4_parse_X0_begin : GoodIn wsX4_parse (wsV RX4 38 RX0 yX0_begin wsX0_begin) := goodIn_app (goodIn_of _ (by decide +kernel)) ggX4_parse_X0_begin
theorem dX4_parse_0 : decode cX4_parse 0 = .ok (.aload_n 0, 1) := by decide +kernel
theorem dX4_parse_1 : decode cX4_parse 1 = .ok (.getfield 30, 3) := by decide +kernel
theorem dX4_parse_4 : decode cX4_parse 4 = .ok (.invokevirtual 267, 3) := by decide +kernel
theorem dX4_parse_7 : decode cX4_parse 7 = .ok (.istore_n 1, 1) := by decide +kernel
theorem dX4_parse_8 : decode cX4_parse 8 = .ok (.iload_n 1, 1) := by decide +kernel
theorem dX4_parse_9 : decode cX4_parse 9 = .ok (.iconst (-1), 1) := by decide +kernel
theorem dX4_parse_10 : decode cX4_parse 10 = .ok (.if_icmp .eq 8, 3) := by decide +kernel
theorem dX4_parse_13 : decode cX4_parse 13 = .ok (.bipush (-10), 2) := by decide +kernel
theorem dX4_parse_15 : decode cX4_parse 15 = .ok (.iload_n 1, 1) := by decide +kernel
theorem dX4_parse_16 : decode cX4_parse 16 = .ok (.isub, 1) := by decide +kernel
theorem dX4_parse_17 : decode cX4_parse 17 = .ok (.ireturn, 1) := by decide +kernel
theorem dX4_parse_18 : decode cX4_parse 18 = .ok (.aload_n 0, 1) := by decide +kernel
theorem dX4_parse_19 : decode cX4_parse 19 = .ok (.invokevirtual 77, 3) := by decide +kernel
theorem dX4_parse_22 : decode cX4_parse 22 = .ok (.aload_n 0, 1) := by decide +kernel
theorem dX4_parse_23 : decode cX4_parse 23 = .ok (.getfield 10, 3) := by decide +kernel
theorem dX4_parse_26 : decode cX4_parse 26 = .ok (.aload_n 0, 1) := by decide +kernel
theorem dX4_parse_27 : decode cX4_parse 27 = .ok (.getfield 30, 3) := by decide +kernel
theorem dX4_parse_30 : decode cX4_parse 30 = .ok (.invokevirtual 38, 3) := by decide +kernel
theorem dX4_parse_33 : decode cX4_parse 33 = .ok (.aload_n 0, 1) := by decide +kernel
theorem dX4_parse_34 : decode cX4_parse 34 = .ok (.getfield 10, 3) := by decide +kernel
theorem dX4_parse_37 : decode cX4_parse 37 = .ok (.getfield 102, 3) := by decide +kernel
theorem dX4_parse_40 : decode cX4_parse 40 = .ok (.getfield 209, 3) := by decide +kernel
theorem dX4_parse_43 : decode cX4_parse 43 = .ok (.ireturn, 1) := by decide +kernel
set_option maxRecDepth 20000 in
theorem ggX4_undo_X0_copyFrom : GoodIn wsX4_undo wsX0_copyFrom := goodIn_r _ [10, 11, 12, 13, 14, 15, 16, 17, 18, 19, 20, 21, 22, 23, 24, 25, 26, 27, 28, 29, 30, 31, 32, 33, 34, 35, 36, 37, 38, 39, 40, 41, 42, 43, 44, 45, 46, 47, 48, 54, 55, 56, 57, 58, 59, 60, 61, 62, 63, 64, 65, 66, 67, 68, 69, 70, 71, 72, 73, 74, 75, 76] (by decide +kernel) (by decide +kernel)
set_option maxRecDepth 20000 in
theorem gX4_undo_X0_copyFrom : GoodIn wsX4_undo (wsV RX4 245 RX0 yX0_copyFrom wsX0_copyFrom) := goodIn_app (goodIn_of _ (by decide +kernel)) ggX4_undo_X0_copyFrom
theorem dX4_undo_0 : decode cX4_undo 0 = .ok (.aload_n 0, 1) := by decide +kernel
theorem dX4_undo_1 : decode cX4_undo 1 = .ok (.getfield 23, 3) := by decide +kernel
theorem dX4_undo_4 : decode cX4_undo 4 = .ok (.ifCond .ne 14, 3) := by decide +kernel
theorem dX4_undo_7 : decode cX4_undo 7 = .ok (.new 64, 3) := by decide +kernel
theorem dX4_undo_10 : decode cX4_undo 10 = .ok (.dup, 1) := by decide +kernel
theorem dX4_undo_11 : decode cX4_undo 11 = .ok (.ldc_w 270, 3) := by decide +kernel
theorem dX4_undo_14 : decode cX4_undo 14 = .ok (.invokespecial 68, 3) := by decide +kernel
theorem dX4_undo_17 : decode cX4_undo 17 = .ok (.athrow, 1) := by decide +kernel
theorem dX4_undo_18 : decode cX4_undo 18 = .ok (.aload_n 0, 1) := by decide +kernel
theorem dX4_undo_19 : decode cX4_undo 19 = .ok (.dup, 1) := by decide +kernel
theorem dX4_undo_20 : decode cX4_undo 20 = .ok (.getfield 23, 3) := by decide +kernel
theorem dX4_undo_23 : decode cX4_undo 23 = .ok (.iconst 1, 1) := by decide +kernel
theorem dX4_undo_24 : decode cX4_undo 24 = .ok (.isub, 1) := by decide +kernel
theorem dX4_undo_25 : decode cX4_undo 25 = .ok (.putfield 23, 3) := by decide +kernel
theorem dX4_undo_28 : decode cX4_undo 28 = .ok (.aload_n 0, 1) := by decide +kernel
theorem dX4_undo_29 : decode cX4_undo 29 = .ok (.getfield 10, 3) := by decide +kernel
theorem dX4_undo_32 : decode cX4_undo 32 = .ok (.aload_n 0, 1) := by decide +kernel
theorem dX4_undo_33 : decode cX4_undo 33 = .ok (.getfield 19, 3) := by decide +kernel
theorem dX4_undo_36 : decode cX4_undo 36 = .ok (.aload_n 0, 1) := by decide +kernel
theorem dX4_undo_37 : decode cX4_undo 37 = .ok (.getfield 23, 3) := by decide +kernel
theorem dX4_undo_40 : decode cX4_undo 40 = .ok (.aaload, 1) := by decide +kernel
theorem dX4_undo_41 : decode cX4_undo 41 = .ok (.invokevirtual 245, 3) := by decide +kernel
theorem dX4_undo_44 : decode cX4_undo 44 = .ok (.aload_n 0, 1) := by decide +kernel
theorem dX4_undo_45 : decode cX4_undo 45 = .ok (.getfield 23, 3) := by decide +kernel
theorem dX4_undo_48 : decode cX4_undo 48 = .ok (.ireturn, 1) := by decide +kernel
set_option maxRecDepth 20000 in
theorem ggX4_digest_X4_hashWith : GoodIn wsX4_digest wsX4_hashWith := goodIn_r _ [10, 11] (by decide +kernel) (by decide +kernel)
set_option maxRecDepth 20000 in
theorem gX4_digest_X4_hashWith : GoodIn wsX4_digest (va_wsS RX4 274 yX4_hashWith wsX4_hashWith) := goodIn_app (goodIn_of _ (by decide +kernel)) ggX4_digest_X4_hashWith
set_option maxRecDepth 20000 in
theorem ggX4_digest_X4_value : GoodIn wsX4_digest wsX4_value := goodIn_ca (goodIn_r _ [15, 16, 17, 4, 18, 19, 20, 21, 22, 5, 23, 24, 25, 26, 27, 28, 29, 30, 31, 32, 33, 34, 35, 36, 37, 38, 39, 40, 41, 42, 43, 44, 45, 46, 47, 48, 49, 50, 51, 52, 282, 283, 284, 285, 286, 289, 290, 291, 292, 293, 294, 295, 296, 297, 298, 299, 300, 301, 302, 303, 304, 305, 306, 307, 308, 309, 310, 311] (by decide +kernel) (by decide +kernel)) (goodIn_sub (fun _ h => List.mem_cons_of_mem _ (List.mem_append_left _ (List.mem_append_right _ h))) (by decide +kernel))
set_option maxRecDepth 20000 in
theorem gX4_digest_X4_value : GoodIn wsX4_digest (wsV RX4 278 RX4 yX4_value wsX4_value) := goodIn_app (goodIn_of _ (by decide +kernel)) ggX4_digest_X4_value
set_option maxRecDepth 20000 in
theorem ggX4_digest_X4_hashOfCells : GoodIn wsX4_digest wsX4_hashOfCells := goodIn_ca (goodIn_ca (goodIn_r _ [56, 4, 18, 19, 57, 58, 59, 9, 60, 16, 17, 61, 62, 63, 64, 65, 66, 67, 68, 69, 70, 71, 72, 27, 73, 39, 40, 74, 7, 8, 10, 11, 282, 283, 284, 285, 286, 289, 290, 291, 292, 293, 294, 295, 296, 297, 298, 299, 300, 301, 302, 303, 304, 305, 306, 307, 308, 309, 310, 311] (by decide +kernel) (by decide +kernel)) (goodIn_sub (fun _ h => List.mem_cons_of_mem _ (List.mem_append_left _ (List.mem_append_right _ h))) (by decide +kernel))) (goodIn_sub (fun _ h => List.mem_cons_of_mem _ (List.mem_append_right _ h)) (by decide +kernel))
set_option maxRecDepth 20000 in
theorem gX4_digest_X4_hashOfCells : GoodIn wsX4_digest (wsV RX4 281 RX4 yX4_hashOfCells wsX4_hashOfCells) := goodIn_app (goodIn_of _ (by decide +kernel)) ggX4_digest_X4_hashOfCells
set_option maxRecDepth 20000 in
theorem ggX4_digest_X4_hashOfBlocks : GoodIn wsX4_digest wsX4_hashOfBlocks := goodIn_ca (goodIn_ca (goodIn_r _ [78, 4, 18, 20, 79, 80, 81, 9, 82, 16, 17, 83, 84, 85, 86, 87, 88, 68, 69, 89, 90, 91, 45, 92, 93, 94, 95, 96, 97, 98, 99, 100, 101, 102, 47, 103, 104, 105, 106, 107, 108, 109, 27, 110, 39, 111, 112, 40, 74, 7, 8, 10, 11, 282, 283, 284, 285, 286, 289, 290, 291, 292, 293, 294, 295, 296, 297, 298, 299, 300, 301, 302, 303, 304, 305, 306, 307, 308, 309, 310, 311] (by decide +kernel) (by decide +kernel)) (goodIn_sub (fun _ h => List.mem_cons_of_mem _ (List.mem_append_left _ (List.mem_append_right _ h))) (by decide +kernel))) (goodIn_sub (fun _ h => List.mem_cons_of_mem _ (List.mem_append_right _ h)) (by decide +kernel))
set_option maxRecDepth 20000 in
theorem gX4_digest_X4_hashOfBlocks : GoodIn wsX4_digest (wsV RX4 285 RX4 yX4_hashOfBlocks wsX4_hashOfBlocks) := goodIn_app (goodIn_of _ (by decide +kernel)) ggX4_digest_X4_hashOfBlocks
set_option maxRecDepth 20000 in
theorem ggX4_digest_X4_hashOfTrains : GoodIn wsX4_digest wsX4_hashOfTrains := goodIn_ca (goodIn_ca (goodIn_r _ [116, 4, 21, 117, 118, 119, 9, 120, 16, 17, 121, 122, 123, 124, 125, 126, 127, 128, 129, 130, 131, 132, 133, 68, 69, 134, 135, 136, 27, 137, 111, 112, 74, 138, 139, 140, 141, 142, 143, 7, 8, 10, 11, 144, 145, 146, 147, 148, 149, 150, 151, 41, 152, 29, 153, 154, 155, 156, 157, 45, 158, 98, 159, 160, 161, 162, 40, 163, 94, 95, 96, 97, 164, 71, 72, 73, 39, 165, 108, 109, 110, 166, 25, 26, 28, 30, 31, 32, 33, 34, 282, 283, 284, 285, 286, 289, 290, 291, 292, 293, 294, 295, 296, 297, 304, 305, 306, 307, 308, 309, 310, 311, 298, 299, 300, 301, 302, 303] (by decide +kernel) (by decide +kernel)) (goodIn_sub (fun _ h => List.mem_cons_of_mem _ (List.mem_append_left _ (List.mem_append_right _ h))) (by decide +kernel))) (goodIn_sub (fun _ h => List.mem_cons_of_mem _ (List.mem_append_right _ h)) (by decide +kernel))
set_option maxRecDepth 20000 in
theorem gX4_digest_X4_hashOfTrains : GoodIn wsX4_digest (wsV RX4 288 RX4 yX4_hashOfTrains wsX4_hashOfTrains) := goodIn_app (goodIn_of _ (by decide +kernel)) ggX4_digest_X4_hashOfTrains
set_option maxRecDepth 20000 in
theorem ggX4_digest_X4_hashOfDispatches : GoodIn wsX4_digest wsX4_hashOfDispatches := goodIn_ca (goodIn_ca (goodIn_r _ [170, 4, 171, 172, 173, 27, 174, 29, 175, 176, 51, 177, 178, 179, 180, 9, 181, 68, 69, 16, 17, 182, 183, 184, 32, 33, 34, 7, 8, 10, 11, 282, 283, 284, 285, 286, 289, 290, 291, 292, 293, 294, 295, 296, 297] (by decide +kernel) (by decide +kernel)) (goodIn_sub (fun _ h => List.mem_cons_of_mem _ (List.mem_append_right _ h)) (by decide +kernel))) (goodIn_sub (fun _ h => List.mem_cons_of_mem _ (List.mem_append_left _ (List.mem_append_right _ h))) (by decide +kernel))
set_option maxRecDepth 20000 in
theorem gX4_digest_X4_hashOfDispatches : GoodIn wsX4_digest (wsV RX4 291 RX4 yX4_hashOfDispatches wsX4_hashOfDispatches) := goodIn_app (goodIn_of _ (by decide +kernel)) ggX4_digest_X4_hashOfDispatches
set_option maxRecDepth 20000 in
theorem ggX4_digest_X4_nextValley : GoodIn wsX4_digest wsX4_nextValley := goodIn_r _ [188, 189, 4, 5, 190, 191, 192, 27, 193, 111, 40, 143, 194, 195, 196, 197, 198, 30, 199, 39, 153, 29, 200, 201, 202, 45, 203, 48, 204, 205, 206, 97, 47, 98, 207, 208, 209, 210, 211, 212, 213, 214, 215, 216, 217, 218, 219, 35, 36, 37, 38, 41, 220, 221, 222, 223, 224, 225, 226, 227, 152, 228, 149, 150, 151, 154, 135, 136, 137, 112, 74, 155, 156, 157, 158, 159, 160, 161, 162, 163, 94, 95, 96, 164, 71, 72, 73, 165, 108, 109, 110, 166, 25, 26, 28, 31, 32, 33, 34, 229, 230, 231, 232, 233, 234, 235, 236, 237, 238, 239, 240, 241, 242, 243, 244, 245, 246, 247, 248, 139, 140, 141, 142, 249, 250, 251, 252, 253, 176, 51, 177, 99, 100, 101, 102, 254, 255, 256, 257, 258, 259, 260, 261, 262, 263, 264, 265, 266, 267, 268, 269, 270, 271, 272, 273, 274, 275, 276, 277, 278, 279, 280, 281, 282, 283, 284, 285, 286, 289, 290, 291, 292, 293, 294, 295, 296, 297, 298, 299, 300, 301, 302, 303, 304, 305, 306, 307, 308, 309, 310, 311] (by decide +kernel) (by decide +kernel)
set_option maxRecDepth 20000 in
theorem gX4_digest_X4_nextValley : GoodIn wsX4_digest (wsV RX4 249 RX4 yX4_nextValley wsX4_nextValley) := goodIn_app (goodIn_of _ (by decide +kernel)) ggX4_digest_X4_nextValley
theorem dX4_digest_0 : decode cX4_digest 0 = .ok (.ldc2_w 272, 3) := by decide +kernel
theorem dX4_digest_3 : decode cX4_digest 3 = .ok (.aload_n 0, 1) := by decide +kernel
theorem dX4_digest_4 : decode cX4_digest 4 = .ok (.getfield 30, 3) := by decide +kernel
theorem dX4_digest_7 : decode cX4_digest 7 = .ok (.getfield 260, 3) := by decide +kernel
theorem dX4_digest_10 : decode cX4_digest 10 = .ok (.i2l, 1) := by decide +kernel
theorem dX4_digest_11 : decode cX4_digest 11 = .ok (.invokestatic 274, 3) := by decide +kernel
theorem dX4_digest_14 : decode cX4_digest 14 = .ok (.lstore_n 1, 1) := by decide +kernel
theorem dX4_digest_15 : decode cX4_digest 15 = .ok (.iconst 0, 1) := by decide +kernel
theorem dX4_digest_16 : decode cX4_digest 16 = .ok (.istore_n 3, 1) := by decide +kernel
theorem dX4_digest_17 : decode cX4_digest 17 = .ok (.iload_n 3, 1) := by decide +kernel
theorem dX4_digest_18 : decode cX4_digest 18 = .ok (.bipush 12, 2) := by decide +kernel
theorem dX4_digest_20 : decode cX4_digest 20 = .ok (.if_icmp .ge 20, 3) := by decide +kernel
theorem dX4_digest_23 : decode cX4_digest 23 = .ok (.lload_n 1, 1) := by decide +kernel
theorem dX4_digest_24 : decode cX4_digest 24 = .ok (.aload_n 0, 1) := by decide +kernel
theorem dX4_digest_25 : decode cX4_digest 25 = .ok (.iload_n 3, 1) := by decide +kernel
theorem dX4_digest_26 : decode cX4_digest 26 = .ok (.invokevirtual 278, 3) := by decide +kernel
theorem dX4_digest_29 : decode cX4_digest 29 = .ok (.i2l, 1) := by decide +kernel
theorem dX4_digest_30 : decode cX4_digest 30 = .ok (.invokestatic 274, 3) := by decide +kernel
theorem dX4_digest_33 : decode cX4_digest 33 = .ok (.lstore_n 1, 1) := by decide +kernel
theorem dX4_digest_34 : decode cX4_digest 34 = .ok (.iinc 3 1, 3) := by decide +kernel
theorem dX4_digest_37 : decode cX4_digest 37 = .ok (.goto (-20), 3) := by decide +kernel
theorem dX4_digest_40 : decode cX4_digest 40 = .ok (.aload_n 0, 1) := by decide +kernel
theorem dX4_digest_41 : decode cX4_digest 41 = .ok (.lload_n 1, 1) := by decide +kernel
theorem dX4_digest_42 : decode cX4_digest 42 = .ok (.invokevirtual 281, 3) := by decide +kernel
theorem dX4_digest_45 : decode cX4_digest 45 = .ok (.lstore_n 1, 1) := by decide +kernel
theorem dX4_digest_46 : decode cX4_digest 46 = .ok (.aload_n 0, 1) := by decide +kernel
theorem dX4_digest_47 : decode cX4_digest 47 = .ok (.lload_n 1, 1) := by decide +kernel
theorem dX4_digest_48 : decode cX4_digest 48 = .ok (.invokevirtual 285, 3) := by decide +kernel
theorem dX4_digest_51 : decode cX4_digest 51 = .ok (.lstore_n 1, 1) := by decide +kernel
theorem dX4_digest_52 : decode cX4_digest 52 = .ok (.aload_n 0, 1) := by decide +kernel
theorem dX4_digest_53 : decode cX4_digest 53 = .ok (.lload_n 1, 1) := by decide +kernel
theorem dX4_digest_54 : decode cX4_digest 54 = .ok (.invokevirtual 288, 3) := by decide +kernel
theorem dX4_digest_57 : decode cX4_digest 57 = .ok (.lstore_n 1, 1) := by decide +kernel
theorem dX4_digest_58 : decode cX4_digest 58 = .ok (.aload_n 0, 1) := by decide +kernel
theorem dX4_digest_59 : decode cX4_digest 59 = .ok (.lload_n 1, 1) := by decide +kernel
theorem dX4_digest_60 : decode cX4_digest 60 = .ok (.invokevirtual 291, 3) := by decide +kernel
theorem dX4_digest_63 : decode cX4_digest 63 = .ok (.lstore_n 1, 1) := by decide +kernel
theorem dX4_digest_64 : decode cX4_digest 64 = .ok (.lload_n 1, 1) := by decide +kernel
theorem dX4_digest_65 : decode cX4_digest 65 = .ok (.aload_n 0, 1) := by decide +kernel
theorem dX4_digest_66 : decode cX4_digest 66 = .ok (.aload_n 0, 1) := by decide +kernel
theorem dX4_digest_67 : decode cX4_digest 67 = .ok (.getfield 10, 3) := by decide +kernel
theorem dX4_digest_70 : decode cX4_digest 70 = .ok (.getfield 135, 3) := by decide +kernel
theorem dX4_digest_73 : decode cX4_digest 73 = .ok (.iconst 0, 1) := by decide +kernel
theorem dX4_digest_74 : decode cX4_digest 74 = .ok (.iaload, 1) := by decide +kernel
theorem dX4_digest_75 : decode cX4_digest 75 = .ok (.sipush 2000, 3) := by decide +kernel
theorem dX4_digest_78 : decode cX4_digest 78 = .ok (.invokevirtual 249, 3) := by decide +kernel
theorem dX4_digest_81 : decode cX4_digest 81 = .ok (.i2l, 1) := by decide +kernel
theorem dX4_digest_82 : decode cX4_digest 82 = .ok (.invokestatic 274, 3) := by decide +kernel
theorem dX4_digest_85 : decode cX4_digest 85 = .ok (.lstore_n 1, 1) := by decide +kernel
theorem dX4_digest_86 : decode cX4_digest 86 = .ok (.lload_n 1, 1) := by decide +kernel
theorem dX4_digest_87 : decode cX4_digest 87 = .ok (.aload_n 0, 1) := by decide +kernel
theorem dX4_digest_88 : decode cX4_digest 88 = .ok (.getfield 23, 3) := by decide +kernel
theorem dX4_digest_91 : decode cX4_digest 91 = .ok (.i2l, 1) := by decide +kernel
theorem dX4_digest_92 : decode cX4_digest 92 = .ok (.invokestatic 274, 3) := by decide +kernel
theorem dX4_digest_95 : decode cX4_digest 95 = .ok (.lreturn, 1) := by decide +kernel
set_option maxRecDepth 20000 in
theorem ggX4_hashOfCells_X4_cell : GoodIn wsX4_hashOfCells wsX4_cell := goodIn_ca (goodIn_ca (goodIn_r _ [8, 9, 10, 1, 2, 11, 12, 13, 14, 15, 16, 7, 17, 18, 19, 3, 20, 21, 22, 23, 24, 25, 26, 27, 32, 33, 34, 35, 36, 37, 38, 39, 40, 41, 42, 43, 44, 45, 46, 47, 48, 49, 50, 51, 52, 53, 54, 55, 56, 57, 58, 59] (by decide +kernel) (by decide +kernel)) (goodIn_sub (fun _ h => List.mem_cons_of_mem _ (List.mem_append_left _ (List.mem_append_right _ h))) (by decide +kernel))) (goodIn_sub (fun _ h => List.mem_cons_of_mem _ (List.mem_append_right _ h)) (by decide +kernel))
set_option maxRecDepth 20000 in
theorem gX4_hashOfCells_X4_cell : GoodIn wsX4_hashOfCells (wsV RX4 294 RX4 yX4_cell wsX4_cell) := goodIn_app (goodIn_of _ (by decide +kernel)) ggX4_hashOfCells_X4_cell
set_option maxRecDepth 20000 in
theorem ggX4_hashOfCells_X4_hashWith : GoodIn wsX4_hashOfCells wsX4_hashWith := goodIn_r _ [30, 31] (by decide +kernel) (by decide +kernel)
set_option maxRecDepth 20000 in
theorem gX4_hashOfCells_X4_hashWith : GoodIn wsX4_hashOfCells (va_wsS RX4 274 yX4_hashWith wsX4_hashWith) := goodIn_app (goodIn_of _ (by decide +kernel)) ggX4_hashOfCells_X4_hashWith
theorem dX4_hashOfCells_0 : decode cX4_hashOfCells 0 = .ok (.lload_n 1, 1) := by decide +kernel
theorem dX4_hashOfCells_1 : decode cX4_hashOfCells 1 = .ok (.lstore_n 3, 1) := by decide +kernel
theorem dX4_hashOfCells_2 : decode cX4_hashOfCells 2 = .ok (.iconst 0, 1) := by decide +kernel
theorem dX4_hashOfCells_3 : decode cX4_hashOfCells 3 = .ok (.istore 5, 2) := by decide +kernel
theorem dX4_hashOfCells_5 : decode cX4_hashOfCells 5 = .ok (.iload 5, 2) := by decide +kernel
theorem dX4_hashOfCells_7 : decode cX4_hashOfCells 7 = .ok (.aload_n 0, 1) := by decide +kernel
theorem dX4_hashOfCells_8 : decode cX4_hashOfCells 8 = .ok (.getfield 10, 3) := by decide +kernel
theorem dX4_hashOfCells_11 : decode cX4_hashOfCells 11 = .ok (.getfield 102, 3) := by decide +kernel
theorem dX4_hashOfCells_14 : decode cX4_hashOfCells 14 = .ok (.getfield 209, 3) := by decide +kernel
theorem dX4_hashOfCells_17 : decode cX4_hashOfCells 17 = .ok (.if_icmp .ge 38, 3) := by decide +kernel
theorem dX4_hashOfCells_20 : decode cX4_hashOfCells 20 = .ok (.iconst 0, 1) := by decide +kernel
theorem dX4_hashOfCells_21 : decode cX4_hashOfCells 21 = .ok (.istore 6, 2) := by decide +kernel
theorem dX4_hashOfCells_23 : decode cX4_hashOfCells 23 = .ok (.iload 6, 2) := by decide +kernel
theorem dX4_hashOfCells_25 : decode cX4_hashOfCells 25 = .ok (.iconst 4, 1) := by decide +kernel
theorem dX4_hashOfCells_26 : decode cX4_hashOfCells 26 = .ok (.if_icmp .ge 23, 3) := by decide +kernel
theorem dX4_hashOfCells_29 : decode cX4_hashOfCells 29 = .ok (.lload_n 3, 1) := by decide +kernel
theorem dX4_hashOfCells_30 : decode cX4_hashOfCells 30 = .ok (.aload_n 0, 1) := by decide +kernel
theorem dX4_hashOfCells_31 : decode cX4_hashOfCells 31 = .ok (.iload 5, 2) := by decide +kernel
theorem dX4_hashOfCells_33 : decode cX4_hashOfCells 33 = .ok (.iload 6, 2) := by decide +kernel
theorem dX4_hashOfCells_35 : decode cX4_hashOfCells 35 = .ok (.invokevirtual 294, 3) := by decide +kernel
theorem dX4_hashOfCells_38 : decode cX4_hashOfCells 38 = .ok (.i2l, 1) := by decide +kernel
theorem dX4_hashOfCells_39 : decode cX4_hashOfCells 39 = .ok (.invokestatic 274, 3) := by decide +kernel
theorem dX4_hashOfCells_42 : decode cX4_hashOfCells 42 = .ok (.lstore_n 3, 1) := by decide +kernel
theorem dX4_hashOfCells_43 : decode cX4_hashOfCells 43 = .ok (.iinc 6 1, 3) := by decide +kernel
theorem dX4_hashOfCells_46 : decode cX4_hashOfCells 46 = .ok (.goto (-23), 3) := by decide +kernel
theorem dX4_hashOfCells_49 : decode cX4_hashOfCells 49 = .ok (.iinc 5 1, 3) := by decide +kernel
theorem dX4_hashOfCells_52 : decode cX4_hashOfCells 52 = .ok (.goto (-47), 3) := by decide +kernel
theorem dX4_hashOfCells_55 : decode cX4_hashOfCells 55 = .ok (.lload_n 3, 1) := by decide +kernel
theorem dX4_hashOfCells_56 : decode cX4_hashOfCells 56 = .ok (.lreturn, 1) := by decide +kernel
set_option maxRecDepth 20000 in
theorem ggX4_hashOfBlocks_X4_block : GoodIn wsX4_hashOfBlocks wsX4_block := goodIn_ca (goodIn_ca (goodIn_r _ [8, 9, 10, 1, 2, 11, 12, 13, 14, 15, 7, 16, 17, 18, 3, 19, 20, 21, 22, 23, 24, 25, 26, 27, 28, 29, 30, 31, 32, 33, 34, 35, 36, 37, 38, 39, 40, 41, 42, 43, 44, 45, 46, 47, 48, 53, 54, 55, 56, 57, 58, 59, 60, 61, 62, 63, 64, 65, 66, 67, 68, 69, 70, 71, 72, 73, 74, 75, 76, 77, 78, 79, 80] (by decide +kernel) (by decide +kernel)) (goodIn_sub (fun _ h => List.mem_cons_of_mem _ (List.mem_append_left _ (List.mem_append_right _ h))) (by decide +kernel))) (goodIn_sub (fun _ h => List.mem_cons_of_mem _ (List.mem_append_right _ h)) (by decide +kernel))
set_option maxRecDepth 20000 in
theorem gX4_hashOfBlocks_X4_block : GoodIn wsX4_hashOfBlocks (wsV RX4 296 RX4 yX4_block wsX4_block) := goodIn_app (goodIn_of _ (by decide +kernel)) ggX4_hashOfBlocks_X4_block
set_option maxRecDepth 20000 in
theorem ggX4_hashOfBlocks_X4_hashWith : GoodIn wsX4_hashOfBlocks wsX4_hashWith := goodIn_r _ [51, 52] (by decide +kernel) (by decide +kernel)
set_option maxRecDepth 20000 in
theorem gX4_hashOfBlocks_X4_hashWith : GoodIn wsX4_hashOfBlocks (va_wsS RX4 274 yX4_hashWith wsX4_hashWith) := goodIn_app (goodIn_of _ (by decide +kernel)) ggX4_hashOfBlocks_X4_hashWith
theorem dX4_hashOfBlocks_0 : decode cX4_hashOfBlocks 0 = .ok (.lload_n 1, 1) := by decide +kernel
theorem dX4_hashOfBlocks_1 : decode cX4_hashOfBlocks 1 = .ok (.lstore_n 3, 1) := by decide +kernel
theorem dX4_hashOfBlocks_2 : decode cX4_hashOfBlocks 2 = .ok (.iconst 0, 1) := by decide +kernel
theorem dX4_hashOfBlocks_3 : decode cX4_hashOfBlocks 3 = .ok (.istore 5, 2) := by decide +kernel
theorem dX4_hashOfBlocks_5 : decode cX4_hashOfBlocks 5 = .ok (.iload 5, 2) := by decide +kernel
theorem dX4_hashOfBlocks_7 : decode cX4_hashOfBlocks 7 = .ok (.aload_n 0, 1) := by decide +kernel
theorem dX4_hashOfBlocks_8 : decode cX4_hashOfBlocks 8 = .ok (.getfield 10, 3) := by decide +kernel
theorem dX4_hashOfBlocks_11 : decode cX4_hashOfBlocks 11 = .ok (.getfield 102, 3) := by decide +kernel
theorem dX4_hashOfBlocks_14 : decode cX4_hashOfBlocks 14 = .ok (.getfield 212, 3) := by decide +kernel
theorem dX4_hashOfBlocks_17 : decode cX4_hashOfBlocks 17 = .ok (.if_icmp .ge 38, 3) := by decide +kernel
theorem dX4_hashOfBlocks_20 : decode cX4_hashOfBlocks 20 = .ok (.iconst 0, 1) := by decide +kernel
theorem dX4_hashOfBlocks_21 : decode cX4_hashOfBlocks 21 = .ok (.istore 6, 2) := by decide +kernel
theorem dX4_hashOfBlocks_23 : decode cX4_hashOfBlocks 23 = .ok (.iload 6, 2) := by decide +kernel
theorem dX4_hashOfBlocks_25 : decode cX4_hashOfBlocks 25 = .ok (.iconst 5, 1) := by decide +kernel
theorem dX4_hashOfBlocks_26 : decode cX4_hashOfBlocks 26 = .ok (.if_icmp .ge 23, 3) := by decide +kernel
theorem dX4_hashOfBlocks_29 : decode cX4_hashOfBlocks 29 = .ok (.lload_n 3, 1) := by decide +kernel
theorem dX4_hashOfBlocks_30 : decode cX4_hashOfBlocks 30 = .ok (.aload_n 0, 1) := by decide +kernel
theorem dX4_hashOfBlocks_31 : decode cX4_hashOfBlocks 31 = .ok (.iload 5, 2) := by decide +kernel
theorem dX4_hashOfBlocks_33 : decode cX4_hashOfBlocks 33 = .ok (.iload 6, 2) := by decide +kernel
theorem dX4_hashOfBlocks_35 : decode cX4_hashOfBlocks 35 = .ok (.invokevirtual 296, 3) := by decide +kernel
theorem dX4_hashOfBlocks_38 : decode cX4_hashOfBlocks 38 = .ok (.i2l, 1) := by decide +kernel
theorem dX4_hashOfBlocks_39 : decode cX4_hashOfBlocks 39 = .ok (.invokestatic 274, 3) := by decide +kernel
theorem dX4_hashOfBlocks_42 : decode cX4_hashOfBlocks 42 = .ok (.lstore_n 3, 1) := by decide +kernel
theorem dX4_hashOfBlocks_43 : decode cX4_hashOfBlocks 43 = .ok (.iinc 6 1, 3) := by decide +kernel
theorem dX4_hashOfBlocks_46 : decode cX4_hashOfBlocks 46 = .ok (.goto (-23), 3) := by decide +kernel
theorem dX4_hashOfBlocks_49 : decode cX4_hashOfBlocks 49 = .ok (.iinc 5 1, 3) := by decide +kernel
theorem dX4_hashOfBlocks_52 : decode cX4_hashOfBlocks 52 = .ok (.goto (-47), 3) := by decide +kernel
theorem dX4_hashOfBlocks_55 : decode cX4_hashOfBlocks 55 = .ok (.lload_n 3, 1) := by decide +kernel
theorem dX4_hashOfBlocks_56 : decode cX4_hashOfBlocks 56 = .ok (.lreturn, 1) := by decide +kernel
set_option maxRecDepth 20000 in
theorem ggX4_hashOfTrains_X4_train : GoodIn wsX4_hashOfTrains wsX4_train := goodIn_ca (goodIn_ca (goodIn_r _ [7, 8, 9, 1, 10, 11, 12, 13, 14, 15, 16, 17, 18, 19, 20, 21, 6, 22, 23, 24, 2, 25, 26, 27, 28, 29, 30, 31, 32, 33, 34, 35, 36, 37, 38, 90, 91, 92, 93, 94, 95, 96, 97, 98, 99, 100, 101, 102, 103, 104, 105, 106, 107, 108, 109, 110, 111, 112, 113, 114, 115, 116, 117] (by decide +kernel) (by decide +kernel)) (goodIn_sub (fun _ h => List.mem_cons_of_mem _ (List.mem_append_left _ (List.mem_append_right _ h))) (by decide +kernel))) (goodIn_sub (fun _ h => List.mem_cons_of_mem _ (List.mem_append_right _ h)) (by decide +kernel))
set_option maxRecDepth 20000 in
theorem gX4_hashOfTrains_X4_train : GoodIn wsX4_hashOfTrains (wsV RX4 299 RX4 yX4_train wsX4_train) := goodIn_app (goodIn_of _ (by decide +kernel)) ggX4_hashOfTrains_X4_train
set_option maxRecDepth 20000 in
theorem ggX4_hashOfTrains_X4_hashWith : GoodIn wsX4_hashOfTrains wsX4_hashWith := goodIn_r _ [41, 42] (by decide +kernel) (by decide +kernel)
set_option maxRecDepth 20000 in
theorem gX4_hashOfTrains_X4_hashWith : GoodIn wsX4_hashOfTrains (va_wsS RX4 274 yX4_hashWith wsX4_hashWith) := goodIn_app (goodIn_of _ (by decide +kernel)) ggX4_hashOfTrains_X4_hashWith
set_option maxRecDepth 20000 in
theorem ggX4_hashOfTrains_X4_why : GoodIn wsX4_hashOfTrains wsX4_why := goodIn_ca (goodIn_r _ [46, 1, 10, 19, 20, 21, 6, 22, 23, 24, 2, 47, 48, 49, 28, 50, 51, 30, 52, 38, 53, 54, 55, 26, 27, 29, 31, 32, 56, 57, 58, 59, 60, 61, 62, 63, 64, 65, 66, 67, 68, 69, 70, 71, 72, 73, 74, 75, 76, 77, 78, 79, 80, 81, 82, 83, 84, 85, 86, 87, 88, 89, 90, 91, 92, 93, 94, 95, 96, 97, 98, 99, 100, 101, 102, 103, 104, 105, 106, 107, 108, 109, 110, 111, 112, 113, 114, 115, 116, 117] (by decide +kernel) (by decide +kernel)) (goodIn_sub (fun _ h => List.mem_cons_of_mem _ (List.mem_append_right _ h)) (by decide +kernel))
set_option maxRecDepth 20000 in
theorem gX4_hashOfTrains_X4_why : GoodIn wsX4_hashOfTrains (wsV RX4 302 RX4 yX4_why wsX4_why) := goodIn_app (goodIn_of _ (by decide +kernel)) ggX4_hashOfTrains_X4_why
theorem dX4_hashOfTrains_0 : decode cX4_hashOfTrains 0 = .ok (.lload_n 1, 1) := by decide +kernel
theorem dX4_hashOfTrains_1 : decode cX4_hashOfTrains 1 = .ok (.lstore_n 3, 1) := by decide +kernel
theorem dX4_hashOfTrains_2 : decode cX4_hashOfTrains 2 = .ok (.iconst 0, 1) := by decide +kernel
theorem dX4_hashOfTrains_3 : decode cX4_hashOfTrains 3 = .ok (.istore 5, 2) := by decide +kernel
theorem dX4_hashOfTrains_5 : decode cX4_hashOfTrains 5 = .ok (.iload 5, 2) := by decide +kernel
theorem dX4_hashOfTrains_7 : decode cX4_hashOfTrains 7 = .ok (.aload_n 0, 1) := by decide +kernel
theorem dX4_hashOfTrains_8 : decode cX4_hashOfTrains 8 = .ok (.getfield 10, 3) := by decide +kernel
theorem dX4_hashOfTrains_11 : decode cX4_hashOfTrains 11 = .ok (.getfield 61, 3) := by decide +kernel
theorem dX4_hashOfTrains_14 : decode cX4_hashOfTrains 14 = .ok (.if_icmp .ge 51, 3) := by decide +kernel
theorem dX4_hashOfTrains_17 : decode cX4_hashOfTrains 17 = .ok (.iconst 0, 1) := by decide +kernel
theorem dX4_hashOfTrains_18 : decode cX4_hashOfTrains 18 = .ok (.istore 6, 2) := by decide +kernel
theorem dX4_hashOfTrains_20 : decode cX4_hashOfTrains 20 = .ok (.iload 6, 2) := by decide +kernel
theorem dX4_hashOfTrains_22 : decode cX4_hashOfTrains 22 = .ok (.bipush 10, 2) := by decide +kernel
theorem dX4_hashOfTrains_24 : decode cX4_hashOfTrains 24 = .ok (.if_icmp .ge 23, 3) := by decide +kernel
theorem dX4_hashOfTrains_27 : decode cX4_hashOfTrains 27 = .ok (.lload_n 3, 1) := by decide +kernel
theorem dX4_hashOfTrains_28 : decode cX4_hashOfTrains 28 = .ok (.aload_n 0, 1) := by decide +kernel
theorem dX4_hashOfTrains_29 : decode cX4_hashOfTrains 29 = .ok (.iload 5, 2) := by decide +kernel
theorem dX4_hashOfTrains_31 : decode cX4_hashOfTrains 31 = .ok (.iload 6, 2) := by decide +kernel
theorem dX4_hashOfTrains_33 : decode cX4_hashOfTrains 33 = .ok (.invokevirtual 299, 3) := by decide +kernel
theorem dX4_hashOfTrains_36 : decode cX4_hashOfTrains 36 = .ok (.i2l, 1) := by decide +kernel
theorem dX4_hashOfTrains_37 : decode cX4_hashOfTrains 37 = .ok (.invokestatic 274, 3) := by decide +kernel
theorem dX4_hashOfTrains_40 : decode cX4_hashOfTrains 40 = .ok (.lstore_n 3, 1) := by decide +kernel
theorem dX4_hashOfTrains_41 : decode cX4_hashOfTrains 41 = .ok (.iinc 6 1, 3) := by decide +kernel
theorem dX4_hashOfTrains_44 : decode cX4_hashOfTrains 44 = .ok (.goto (-24), 3) := by decide +kernel
theorem dX4_hashOfTrains_47 : decode cX4_hashOfTrains 47 = .ok (.lload_n 3, 1) := by decide +kernel
theorem dX4_hashOfTrains_48 : decode cX4_hashOfTrains 48 = .ok (.aload_n 0, 1) := by decide +kernel
theorem dX4_hashOfTrains_49 : decode cX4_hashOfTrains 49 = .ok (.iload 5, 2) := by decide +kernel
theorem dX4_hashOfTrains_51 : decode cX4_hashOfTrains 51 = .ok (.invokevirtual 302, 3) := by decide +kernel
theorem dX4_hashOfTrains_54 : decode cX4_hashOfTrains 54 = .ok (.i2l, 1) := by decide +kernel
theorem dX4_hashOfTrains_55 : decode cX4_hashOfTrains 55 = .ok (.invokestatic 274, 3) := by decide +kernel
theorem dX4_hashOfTrains_58 : decode cX4_hashOfTrains 58 = .ok (.lstore_n 3, 1) := by decide +kernel
theorem dX4_hashOfTrains_59 : decode cX4_hashOfTrains 59 = .ok (.iinc 5 1, 3) := by decide +kernel
theorem dX4_hashOfTrains_62 : decode cX4_hashOfTrains 62 = .ok (.goto (-57), 3) := by decide +kernel
theorem dX4_hashOfTrains_65 : decode cX4_hashOfTrains 65 = .ok (.lload_n 3, 1) := by decide +kernel
theorem dX4_hashOfTrains_66 : decode cX4_hashOfTrains 66 = .ok (.lreturn, 1) := by decide +kernel
set_option maxRecDepth 20000 in
theorem ggX4_hashOfDispatches_X0_keptDispatches : GoodIn wsX4_hashOfDispatches wsX0_keptDispatches := goodIn_r _ [6, 7, 8, 9, 10, 11, 36, 37, 38, 39, 40, 41, 42, 43, 44] (by decide +kernel) (by decide +kernel)
set_option maxRecDepth 20000 in
theorem gX4_hashOfDispatches_X0_keptDispatches : GoodIn wsX4_hashOfDispatches (wsV RX4 226 RX0 yX0_keptDispatches wsX0_keptDispatches) := goodIn_app (goodIn_of _ (by decide +kernel)) ggX4_hashOfDispatches_X0_keptDispatches
set_option maxRecDepth 20000 in
theorem ggX4_hashOfDispatches_X4_dispatch : GoodIn wsX4_hashOfDispatches wsX4_dispatch := goodIn_ca (goodIn_ca (goodIn_r _ [16, 17, 18, 19, 20, 1, 21, 22, 2, 3, 4, 5, 6, 7, 8, 9, 10, 11, 23, 24, 25, 26, 31, 32, 33, 34, 35, 36, 37, 38, 39, 40, 41, 42, 43, 44] (by decide +kernel) (by decide +kernel)) (goodIn_sub (fun _ h => List.mem_cons_of_mem _ (List.mem_append_left _ (List.mem_append_right _ h))) (by decide +kernel))) (goodIn_sub (fun _ h => List.mem_cons_of_mem _ (List.mem_append_right _ h)) (by decide +kernel))
set_option maxRecDepth 20000 in
theorem gX4_hashOfDispatches_X4_dispatch : GoodIn wsX4_hashOfDispatches (wsV RX4 305 RX4 yX4_dispatch wsX4_dispatch) := goodIn_app (goodIn_of _ (by decide +kernel)) ggX4_hashOfDispatches_X4_dispatch
set_option maxRecDepth 20000 in
theorem ggX4_hashOfDispatches_X4_hashWith : GoodIn wsX4_hashOfDispatches wsX4_hashWith := goodIn_r _ [29, 30] (by decide +kernel) (by decide +kernel)
set_option maxRecDepth 20000 in
theorem gX4_hashOfDispatches_X4_hashWith : GoodIn wsX4_hashOfDispatches (va_wsS RX4 274 yX4_hashWith wsX4_hashWith) := goodIn_app (goodIn_of _ (by decide +kernel)) ggX4_hashOfDispatches_X4_hashWith
theorem dX4_hashOfDispatches_0 : decode cX4_hashOfDispatches 0 = .ok (.lload_n 1, 1) := by decide +kernel
theorem dX4_hashOfDispatches_1 : decode cX4_hashOfDispatches 1 = .ok (.lstore_n 3, 1) := by decide +kernel
theorem dX4_hashOfDispatches_2 : decode cX4_hashOfDispatches 2 = .ok (.aload_n 0, 1) := by decide +kernel
theorem dX4_hashOfDispatches_3 : decode cX4_hashOfDispatches 3 = .ok (.getfield 10, 3) := by decide +kernel
theorem dX4_hashOfDispatches_6 : decode cX4_hashOfDispatches 6 = .ok (.invokevirtual 226, 3) := by decide +kernel
theorem dX4_hashOfDispatches_9 : decode cX4_hashOfDispatches 9 = .ok (.istore 5, 2) := by decide +kernel
theorem dX4_hashOfDispatches_11 : decode cX4_hashOfDispatches 11 = .ok (.iconst 0, 1) := by decide +kernel
theorem dX4_hashOfDispatches_12 : decode cX4_hashOfDispatches 12 = .ok (.istore 6, 2) := by decide +kernel
theorem dX4_hashOfDispatches_14 : decode cX4_hashOfDispatches 14 = .ok (.iload 6, 2) := by decide +kernel
theorem dX4_hashOfDispatches_16 : decode cX4_hashOfDispatches 16 = .ok (.iload 5, 2) := by decide +kernel
theorem dX4_hashOfDispatches_18 : decode cX4_hashOfDispatches 18 = .ok (.if_icmp .ge 38, 3) := by decide +kernel
theorem dX4_hashOfDispatches_21 : decode cX4_hashOfDispatches 21 = .ok (.iconst 0, 1) := by decide +kernel
theorem dX4_hashOfDispatches_22 : decode cX4_hashOfDispatches 22 = .ok (.istore 7, 2) := by decide +kernel
theorem dX4_hashOfDispatches_24 : decode cX4_hashOfDispatches 24 = .ok (.iload 7, 2) := by decide +kernel
theorem dX4_hashOfDispatches_26 : decode cX4_hashOfDispatches 26 = .ok (.iconst 2, 1) := by decide +kernel
theorem dX4_hashOfDispatches_27 : decode cX4_hashOfDispatches 27 = .ok (.if_icmp .ge 23, 3) := by decide +kernel
theorem dX4_hashOfDispatches_30 : decode cX4_hashOfDispatches 30 = .ok (.lload_n 3, 1) := by decide +kernel
theorem dX4_hashOfDispatches_31 : decode cX4_hashOfDispatches 31 = .ok (.aload_n 0, 1) := by decide +kernel
theorem dX4_hashOfDispatches_32 : decode cX4_hashOfDispatches 32 = .ok (.iload 6, 2) := by decide +kernel
theorem dX4_hashOfDispatches_34 : decode cX4_hashOfDispatches 34 = .ok (.iload 7, 2) := by decide +kernel
theorem dX4_hashOfDispatches_36 : decode cX4_hashOfDispatches 36 = .ok (.invokevirtual 305, 3) := by decide +kernel
theorem dX4_hashOfDispatches_39 : decode cX4_hashOfDispatches 39 = .ok (.i2l, 1) := by decide +kernel
theorem dX4_hashOfDispatches_40 : decode cX4_hashOfDispatches 40 = .ok (.invokestatic 274, 3) := by decide +kernel
theorem dX4_hashOfDispatches_43 : decode cX4_hashOfDispatches 43 = .ok (.lstore_n 3, 1) := by decide +kernel
theorem dX4_hashOfDispatches_44 : decode cX4_hashOfDispatches 44 = .ok (.iinc 7 1, 3) := by decide +kernel
theorem dX4_hashOfDispatches_47 : decode cX4_hashOfDispatches 47 = .ok (.goto (-23), 3) := by decide +kernel
theorem dX4_hashOfDispatches_50 : decode cX4_hashOfDispatches 50 = .ok (.iinc 6 1, 3) := by decide +kernel
theorem dX4_hashOfDispatches_53 : decode cX4_hashOfDispatches 53 = .ok (.goto (-39), 3) := by decide +kernel
theorem dX4_hashOfDispatches_56 : decode cX4_hashOfDispatches 56 = .ok (.lload_n 3, 1) := by decide +kernel
theorem dX4_hashOfDispatches_57 : decode cX4_hashOfDispatches 57 = .ok (.lreturn, 1) := by decide +kernel
theorem dX4_hashWith_0 : decode cX4_hashWith 0 = .ok (.ldc2_w 308, 3) := by decide +kernel
theorem dX4_hashWith_3 : decode cX4_hashWith 3 = .ok (.lload_n 0, 1) := by decide +kernel
theorem dX4_hashWith_4 : decode cX4_hashWith 4 = .ok (.lmul, 1) := by decide +kernel
theorem dX4_hashWith_5 : decode cX4_hashWith 5 = .ok (.lload_n 2, 1) := by decide +kernel
theorem dX4_hashWith_6 : decode cX4_hashWith 6 = .ok (.ladd, 1) := by decide +kernel
theorem dX4_hashWith_7 : decode cX4_hashWith 7 = .ok (.lreturn, 1) := by decide +kernel
set_option maxRecDepth 20000 in
theorem ggX4_nextValley_X0_copyFrom : GoodIn wsX4_nextValley wsX0_copyFrom := goodIn_r _ [8, 9, 10, 11, 12, 13, 14, 15, 16, 17, 18, 19, 20, 21, 22, 23, 24, 25, 26, 27, 28, 29, 30, 31, 32, 33, 34, 35, 36, 37, 38, 39, 40, 41, 42, 43, 44, 45, 46, 168, 169, 170, 171, 172, 173, 174, 175, 176, 177, 178, 179, 180, 181, 182, 183, 184, 185, 186, 187, 188, 189, 190] (by decide +kernel) (by decide +kernel)
set_option maxRecDepth 20000 in
theorem gX4_nextValley_X0_copyFrom : GoodIn wsX4_nextValley (wsV RX4 245 RX0 yX0_copyFrom wsX0_copyFrom) := goodIn_app (goodIn_of _ (by decide +kernel)) ggX4_nextValley_X0_copyFrom
set_option maxRecDepth 20000 in
theorem ggX4_nextValley_X0_lyingTrains : GoodIn wsX4_nextValley wsX0_lyingTrains := goodIn_r _ [50, 19, 10, 51, 168, 169, 170, 171, 172, 173, 174, 175, 176, 183, 184, 185, 186, 187, 188, 189, 190] (by decide +kernel) (by decide +kernel)
set_option maxRecDepth 20000 in
theorem gX4_nextValley_X0_lyingTrains : GoodIn wsX4_nextValley (wsV RX4 218 RX0 yX0_lyingTrains wsX0_lyingTrains) := goodIn_app (goodIn_of _ (by decide +kernel)) ggX4_nextValley_X0_lyingTrains
set_option maxRecDepth 20000 in
theorem ggX4_nextValley_X0_tick : GoodIn wsX4_nextValley wsX0_tick := goodIn_r _ [55, 19, 10, 51, 11, 20, 56, 57, 58, 7, 59, 60, 61, 62, 63, 64, 9, 21, 65, 66, 67, 68, 69, 70, 71, 72, 73, 25, 74, 33, 75, 76, 77, 78, 79, 80, 81, 82, 31, 83, 84, 85, 86, 87, 88, 89, 90, 91, 92, 93, 94, 17, 95, 96, 97, 98, 99, 100, 101, 37, 102, 40, 41, 43, 44, 103, 104, 105, 106, 18, 107, 108, 109, 110, 111, 112, 113, 114, 115, 116, 117, 118, 119, 120, 121, 122, 123, 124, 125, 126, 29, 27, 127, 128, 129, 130, 131, 132, 133, 134, 32, 135, 136, 137, 138, 139, 140, 141, 142, 143, 39, 45, 144, 145, 146, 147, 148, 16, 149, 150, 151, 152, 153, 154, 155, 156, 157, 158, 159, 160, 42, 161, 162, 168, 169, 170, 171, 172, 173, 174, 175, 176, 183, 184, 185, 186, 187, 188, 189, 190, 177, 178, 179, 180, 181, 182] (by decide +kernel) (by decide +kernel)
set_option maxRecDepth 20000 in
theorem gX4_nextValley_X0_tick : GoodIn wsX4_nextValley (wsV RX4 157 RX0 yX0_tick wsX0_tick) := goodIn_app (goodIn_of _ (by decide +kernel)) ggX4_nextValley_X0_tick
theorem dX4_nextValley_0 : decode cX4_nextValley 0 = .ok (.aload_n 0, 1) := by decide +kernel
theorem dX4_nextValley_1 : decode cX4_nextValley 1 = .ok (.getfield 16, 3) := by decide +kernel
theorem dX4_nextValley_4 : decode cX4_nextValley 4 = .ok (.aload_n 0, 1) := by decide +kernel
theorem dX4_nextValley_5 : decode cX4_nextValley 5 = .ok (.getfield 10, 3) := by decide +kernel
theorem dX4_nextValley_8 : decode cX4_nextValley 8 = .ok (.invokevirtual 245, 3) := by decide +kernel
theorem dX4_nextValley_11 : decode cX4_nextValley 11 = .ok (.aload_n 0, 1) := by decide +kernel
theorem dX4_nextValley_12 : decode cX4_nextValley 12 = .ok (.getfield 16, 3) := by decide +kernel
theorem dX4_nextValley_15 : decode cX4_nextValley 15 = .ok (.getfield 135, 3) := by decide +kernel
theorem dX4_nextValley_18 : decode cX4_nextValley 18 = .ok (.iconst 0, 1) := by decide +kernel
theorem dX4_nextValley_19 : decode cX4_nextValley 19 = .ok (.iload_n 1, 1) := by decide +kernel
theorem dX4_nextValley_20 : decode cX4_nextValley 20 = .ok (.iastore, 1) := by decide +kernel
theorem dX4_nextValley_21 : decode cX4_nextValley 21 = .ok (.aload_n 0, 1) := by decide +kernel
theorem dX4_nextValley_22 : decode cX4_nextValley 22 = .ok (.getfield 16, 3) := by decide +kernel
theorem dX4_nextValley_25 : decode cX4_nextValley 25 = .ok (.invokevirtual 218, 3) := by decide +kernel
theorem dX4_nextValley_28 : decode cX4_nextValley 28 = .ok (.istore_n 3, 1) := by decide +kernel
theorem dX4_nextValley_29 : decode cX4_nextValley 29 = .ok (.iconst 1, 1) := by decide +kernel
theorem dX4_nextValley_30 : decode cX4_nextValley 30 = .ok (.istore 4, 2) := by decide +kernel
theorem dX4_nextValley_32 : decode cX4_nextValley 32 = .ok (.iload 4, 2) := by decide +kernel
theorem dX4_nextValley_34 : decode cX4_nextValley 34 = .ok (.iload_n 2, 1) := by decide +kernel
theorem dX4_nextValley_35 : decode cX4_nextValley 35 = .ok (.if_icmp .gt 30, 3) := by decide +kernel
theorem dX4_nextValley_38 : decode cX4_nextValley 38 = .ok (.aload_n 0, 1) := by decide +kernel
theorem dX4_nextValley_39 : decode cX4_nextValley 39 = .ok (.getfield 16, 3) := by decide +kernel
theorem dX4_nextValley_42 : decode cX4_nextValley 42 = .ok (.invokevirtual 157, 3) := by decide +kernel
theorem dX4_nextValley_45 : decode cX4_nextValley 45 = .ok (.aload_n 0, 1) := by decide +kernel
theorem dX4_nextValley_46 : decode cX4_nextValley 46 = .ok (.getfield 16, 3) := by decide +kernel
theorem dX4_nextValley_49 : decode cX4_nextValley 49 = .ok (.invokevirtual 218, 3) := by decide +kernel
theorem dX4_nextValley_52 : decode cX4_nextValley 52 = .ok (.iload_n 3, 1) := by decide +kernel
theorem dX4_nextValley_53 : decode cX4_nextValley 53 = .ok (.if_icmp .le 6, 3) := by decide +kernel
theorem dX4_nextValley_56 : decode cX4_nextValley 56 = .ok (.iload 4, 2) := by decide +kernel
theorem dX4_nextValley_58 : decode cX4_nextValley 58 = .ok (.ireturn, 1) := by decide +kernel
theorem dX4_nextValley_59 : decode cX4_nextValley 59 = .ok (.iinc 4 1, 3) := by decide +kernel
theorem dX4_nextValley_62 : decode cX4_nextValley 62 = .ok (.goto (-30), 3) := by decide +kernel
theorem dX4_nextValley_65 : decode cX4_nextValley 65 = .ok (.iconst (-1), 1) := by decide +kernel
theorem dX4_nextValley_66 : decode cX4_nextValley 66 = .ok (.ireturn, 1) := by decide +kernel
set_option maxRecDepth 20000 in
theorem ggX4_save_X0_copyFrom : GoodIn wsX4_save wsX0_copyFrom := goodIn_r _ [8, 9, 10, 11, 12, 13, 14, 15, 16, 17, 18, 19, 20, 21, 22, 23, 24, 25, 26, 27, 28, 29, 30, 31, 32, 33, 34, 35, 36, 37, 38, 39, 40, 41, 42, 43, 44, 45, 46, 52, 53, 54, 55, 56, 57, 58, 59, 60, 61, 62, 63, 64, 65, 66, 67, 68, 69, 70, 71, 72, 73, 74] (by decide +kernel) (by decide +kernel)
set_option maxRecDepth 20000 in
theorem gX4_save_X0_copyFrom : GoodIn wsX4_save (wsV RX4 245 RX0 yX0_copyFrom wsX0_copyFrom) := goodIn_app (goodIn_of _ (by decide +kernel)) ggX4_save_X0_copyFrom
theorem dX4_save_0 : decode cX4_save 0 = .ok (.aload_n 0, 1) := by decide +kernel
theorem dX4_save_1 : decode cX4_save 1 = .ok (.getfield 23, 3) := by decide +kernel
theorem dX4_save_4 : decode cX4_save 4 = .ok (.iconst 4, 1) := by decide +kernel
theorem dX4_save_5 : decode cX4_save 5 = .ok (.if_icmp .ne 52, 3) := by decide +kernel
theorem dX4_save_8 : decode cX4_save 8 = .ok (.aload_n 0, 1) := by decide +kernel
theorem dX4_save_9 : decode cX4_save 9 = .ok (.getfield 19, 3) := by decide +kernel
theorem dX4_save_12 : decode cX4_save 12 = .ok (.iconst 0, 1) := by decide +kernel
theorem dX4_save_13 : decode cX4_save 13 = .ok (.aaload, 1) := by decide +kernel
theorem dX4_save_14 : decode cX4_save 14 = .ok (.astore_n 1, 1) := by decide +kernel
theorem dX4_save_15 : decode cX4_save 15 = .ok (.iconst 1, 1) := by decide +kernel
theorem dX4_save_16 : decode cX4_save 16 = .ok (.istore_n 2, 1) := by decide +kernel
theorem dX4_save_17 : decode cX4_save 17 = .ok (.iload_n 2, 1) := by decide +kernel
theorem dX4_save_18 : decode cX4_save 18 = .ok (.iconst 4, 1) := by decide +kernel
theorem dX4_save_19 : decode cX4_save 19 = .ok (.if_icmp .ge 23, 3) := by decide +kernel
theorem dX4_save_22 : decode cX4_save 22 = .ok (.aload_n 0, 1) := by decide +kernel
theorem dX4_save_23 : decode cX4_save 23 = .ok (.getfield 19, 3) := by decide +kernel
theorem dX4_save_26 : decode cX4_save 26 = .ok (.iload_n 2, 1) := by decide +kernel
theorem dX4_save_27 : decode cX4_save 27 = .ok (.iconst 1, 1) := by decide +kernel
theorem dX4_save_28 : decode cX4_save 28 = .ok (.isub, 1) := by decide +kernel
theorem dX4_save_29 : decode cX4_save 29 = .ok (.aload_n 0, 1) := by decide +kernel
theorem dX4_save_30 : decode cX4_save 30 = .ok (.getfield 19, 3) := by decide +kernel
theorem dX4_save_33 : decode cX4_save 33 = .ok (.iload_n 2, 1) := by decide +kernel
theorem dX4_save_34 : decode cX4_save 34 = .ok (.aaload, 1) := by decide +kernel
theorem dX4_save_35 : decode cX4_save 35 = .ok (.aastore, 1) := by decide +kernel
theorem dX4_save_36 : decode cX4_save 36 = .ok (.iinc 2 1, 3) := by decide +kernel
theorem dX4_save_39 : decode cX4_save 39 = .ok (.goto (-22), 3) := by decide +kernel
theorem dX4_save_42 : decode cX4_save 42 = .ok (.aload_n 0, 1) := by decide +kernel
theorem dX4_save_43 : decode cX4_save 43 = .ok (.iconst 3, 1) := by decide +kernel
theorem dX4_save_44 : decode cX4_save 44 = .ok (.putfield 23, 3) := by decide +kernel
theorem dX4_save_47 : decode cX4_save 47 = .ok (.aload_n 0, 1) := by decide +kernel
theorem dX4_save_48 : decode cX4_save 48 = .ok (.getfield 19, 3) := by decide +kernel
theorem dX4_save_51 : decode cX4_save 51 = .ok (.aload_n 0, 1) := by decide +kernel
theorem dX4_save_52 : decode cX4_save 52 = .ok (.getfield 23, 3) := by decide +kernel
theorem dX4_save_55 : decode cX4_save 55 = .ok (.aload_n 1, 1) := by decide +kernel
theorem dX4_save_56 : decode cX4_save 56 = .ok (.aastore, 1) := by decide +kernel
theorem dX4_save_57 : decode cX4_save 57 = .ok (.aload_n 0, 1) := by decide +kernel
theorem dX4_save_58 : decode cX4_save 58 = .ok (.getfield 19, 3) := by decide +kernel
theorem dX4_save_61 : decode cX4_save 61 = .ok (.aload_n 0, 1) := by decide +kernel
theorem dX4_save_62 : decode cX4_save 62 = .ok (.getfield 23, 3) := by decide +kernel
theorem dX4_save_65 : decode cX4_save 65 = .ok (.aaload, 1) := by decide +kernel
theorem dX4_save_66 : decode cX4_save 66 = .ok (.aload_n 0, 1) := by decide +kernel
theorem dX4_save_67 : decode cX4_save 67 = .ok (.getfield 10, 3) := by decide +kernel
theorem dX4_save_70 : decode cX4_save 70 = .ok (.invokevirtual 245, 3) := by decide +kernel
theorem dX4_save_73 : decode cX4_save 73 = .ok (.aload_n 0, 1) := by decide +kernel
theorem dX4_save_74 : decode cX4_save 74 = .ok (.dup, 1) := by decide +kernel
theorem dX4_save_75 : decode cX4_save 75 = .ok (.getfield 23, 3) := by decide +kernel
theorem dX4_save_78 : decode cX4_save 78 = .ok (.iconst 1, 1) := by decide +kernel
theorem dX4_save_79 : decode cX4_save 79 = .ok (.iadd, 1) := by decide +kernel
theorem dX4_save_80 : decode cX4_save 80 = .ok (.putfield 23, 3) := by decide +kernel
theorem dX4_save_83 : decode cX4_save 83 = .ok (.return_, 1) := by decide +kernel
theorem dX4_requireTrain_0 : decode cX4_requireTrain 0 = .ok (.iload_n 1, 1) := by decide +kernel
theorem dX4_requireTrain_1 : decode cX4_requireTrain 1 = .ok (.ifCond .lt 14, 3) := by decide +kernel
theorem dX4_requireTrain_4 : decode cX4_requireTrain 4 = .ok (.iload_n 1, 1) := by decide +kernel
theorem dX4_requireTrain_5 : decode cX4_requireTrain 5 = .ok (.aload_n 0, 1) := by decide +kernel
theorem dX4_requireTrain_6 : decode cX4_requireTrain 6 = .ok (.getfield 10, 3) := by decide +kernel
theorem dX4_requireTrain_9 : decode cX4_requireTrain 9 = .ok (.getfield 61, 3) := by decide +kernel
theorem dX4_requireTrain_12 : decode cX4_requireTrain 12 = .ok (.if_icmp .lt 14, 3) := by decide +kernel
theorem dX4_requireTrain_15 : decode cX4_requireTrain 15 = .ok (.new 119, 3) := by decide +kernel
theorem dX4_requireTrain_18 : decode cX4_requireTrain 18 = .ok (.dup, 1) := by decide +kernel
theorem dX4_requireTrain_19 : decode cX4_requireTrain 19 = .ok (.ldc_w 310, 3) := by decide +kernel
theorem dX4_requireTrain_22 : decode cX4_requireTrain 22 = .ok (.invokespecial 123, 3) := by decide +kernel
theorem dX4_requireTrain_25 : decode cX4_requireTrain 25 = .ok (.athrow, 1) := by decide +kernel
theorem dX4_requireTrain_26 : decode cX4_requireTrain 26 = .ok (.return_, 1) := by decide +kernel
theorem dX4_requireCell_0 : decode cX4_requireCell 0 = .ok (.iload_n 1, 1) := by decide +kernel
theorem dX4_requireCell_1 : decode cX4_requireCell 1 = .ok (.ifCond .lt 17, 3) := by decide +kernel
theorem dX4_requireCell_4 : decode cX4_requireCell 4 = .ok (.iload_n 1, 1) := by decide +kernel
theorem dX4_requireCell_5 : decode cX4_requireCell 5 = .ok (.aload_n 0, 1) := by decide +kernel
theorem dX4_requireCell_6 : decode cX4_requireCell 6 = .ok (.getfield 10, 3) := by decide +kernel
theorem dX4_requireCell_9 : decode cX4_requireCell 9 = .ok (.getfield 102, 3) := by decide +kernel
theorem dX4_requireCell_12 : decode cX4_requireCell 12 = .ok (.getfield 209, 3) := by decide +kernel
theorem dX4_requireCell_15 : decode cX4_requireCell 15 = .ok (.if_icmp .lt 14, 3) := by decide +kernel
theorem dX4_requireCell_18 : decode cX4_requireCell 18 = .ok (.new 119, 3) := by decide +kernel
theorem dX4_requireCell_21 : decode cX4_requireCell 21 = .ok (.dup, 1) := by decide +kernel
theorem dX4_requireCell_22 : decode cX4_requireCell 22 = .ok (.ldc_w 312, 3) := by decide +kernel
theorem dX4_requireCell_25 : decode cX4_requireCell 25 = .ok (.invokespecial 123, 3) := by decide +kernel
theorem dX4_requireCell_28 : decode cX4_requireCell 28 = .ok (.athrow, 1) := by decide +kernel
theorem dX4_requireCell_29 : decode cX4_requireCell 29 = .ok (.return_, 1) := by decide +kernel
theorem dX4_requireBlock_0 : decode cX4_requireBlock 0 = .ok (.iload_n 1, 1) := by decide +kernel
theorem dX4_requireBlock_1 : decode cX4_requireBlock 1 = .ok (.ifCond .lt 17, 3) := by decide +kernel
theorem dX4_requireBlock_4 : decode cX4_requireBlock 4 = .ok (.iload_n 1, 1) := by decide +kernel
theorem dX4_requireBlock_5 : decode cX4_requireBlock 5 = .ok (.aload_n 0, 1) := by decide +kernel
theorem dX4_requireBlock_6 : decode cX4_requireBlock 6 = .ok (.getfield 10, 3) := by decide +kernel
theorem dX4_requireBlock_9 : decode cX4_requireBlock 9 = .ok (.getfield 102, 3) := by decide +kernel
theorem dX4_requireBlock_12 : decode cX4_requireBlock 12 = .ok (.getfield 212, 3) := by decide +kernel
theorem dX4_requireBlock_15 : decode cX4_requireBlock 15 = .ok (.if_icmp .lt 14, 3) := by decide +kernel
theorem dX4_requireBlock_18 : decode cX4_requireBlock 18 = .ok (.new 119, 3) := by decide +kernel
theorem dX4_requireBlock_21 : decode cX4_requireBlock 21 = .ok (.dup, 1) := by decide +kernel
theorem dX4_requireBlock_22 : decode cX4_requireBlock 22 = .ok (.ldc_w 314, 3) := by decide +kernel
theorem dX4_requireBlock_25 : decode cX4_requireBlock 25 = .ok (.invokespecial 123, 3) := by decide +kernel
theorem dX4_requireBlock_28 : decode cX4_requireBlock 28 = .ok (.athrow, 1) := by decide +kernel
theorem dX4_requireBlock_29 : decode cX4_requireBlock 29 = .ok (.return_, 1) := by decide +kernel
