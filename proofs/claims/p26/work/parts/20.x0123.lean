set_option maxRecDepth 20000 in
theorem ggX0_init_X1_init : GoodIn wsX0_init wsX1_init := goodIn_r _ [27, 28, 2, 3, 17, 29, 30, 31, 32, 33, 34, 46, 47, 48, 49, 50, 51] (by decide +kernel) (by decide +kernel)
set_option maxRecDepth 20000 in
theorem gX0_init_X1_init_n11 : GoodIn wsX0_init (wsX1_init) := ggX0_init_X1_init
set_option maxRecDepth 20000 in
theorem ggX0_init_X3_init : GoodIn wsX0_init wsX3_init := goodIn_r _ [36, 37, 2, 3, 38, 39, 40, 41, 42, 43, 44, 45, 61, 62, 63, 64, 65, 66, 67, 68] (by decide +kernel) (by decide +kernel)
set_option maxRecDepth 20000 in
theorem gX0_init_X3_init_n55 : GoodIn wsX0_init (wsX3_init) := ggX0_init_X3_init
theorem dX0_init_0 : decode cX0_init 0 = .ok (.aload_n 0, 1) := by decide +kernel
theorem dX0_init_1 : decode cX0_init 1 = .ok (.invokespecial 3, 3) := by decide +kernel
theorem dX0_init_4 : decode cX0_init 4 = .ok (.aload_n 0, 1) := by decide +kernel
theorem dX0_init_5 : decode cX0_init 5 = .ok (.new 9, 3) := by decide +kernel
theorem dX0_init_8 : decode cX0_init 8 = .ok (.dup, 1) := by decide +kernel
theorem dX0_init_9 : decode cX0_init 9 = .ok (.invokespecial 11, 3) := by decide +kernel
theorem dX0_init_12 : decode cX0_init 12 = .ok (.putfield 12, 3) := by decide +kernel
theorem dX0_init_15 : decode cX0_init 15 = .ok (.aload_n 0, 1) := by decide +kernel
theorem dX0_init_16 : decode cX0_init 16 = .ok (.iconst 4, 1) := by decide +kernel
theorem dX0_init_17 : decode cX0_init 17 = .ok (.anewarray 18, 3) := by decide +kernel
theorem dX0_init_20 : decode cX0_init 20 = .ok (.putfield 20, 3) := by decide +kernel
theorem dX0_init_23 : decode cX0_init 23 = .ok (.aload_n 0, 1) := by decide +kernel
theorem dX0_init_24 : decode cX0_init 24 = .ok (.getstatic 24, 3) := by decide +kernel
theorem dX0_init_27 : decode cX0_init 27 = .ok (.invokevirtual 28, 3) := by decide +kernel
theorem dX0_init_30 : decode cX0_init 30 = .ok (.checkcast 29, 3) := by decide +kernel
theorem dX0_init_33 : decode cX0_init 33 = .ok (.putfield 33, 3) := by decide +kernel
theorem dX0_init_36 : decode cX0_init 36 = .ok (.aload_n 0, 1) := by decide +kernel
theorem dX0_init_37 : decode cX0_init 37 = .ok (.bipush 8, 2) := by decide +kernel
theorem dX0_init_39 : decode cX0_init 39 = .ok (.newarray .int, 2) := by decide +kernel
theorem dX0_init_41 : decode cX0_init 41 = .ok (.putfield 36, 3) := by decide +kernel
theorem dX0_init_44 : decode cX0_init 44 = .ok (.aload_n 0, 1) := by decide +kernel
theorem dX0_init_45 : decode cX0_init 45 = .ok (.bipush 30, 2) := by decide +kernel
theorem dX0_init_47 : decode cX0_init 47 = .ok (.newarray .int, 2) := by decide +kernel
theorem dX0_init_49 : decode cX0_init 49 = .ok (.putfield 39, 3) := by decide +kernel
theorem dX0_init_52 : decode cX0_init 52 = .ok (.aload_n 0, 1) := by decide +kernel
theorem dX0_init_53 : decode cX0_init 53 = .ok (.bipush 30, 2) := by decide +kernel
theorem dX0_init_55 : decode cX0_init 55 = .ok (.newarray .int, 2) := by decide +kernel
theorem dX0_init_57 : decode cX0_init 57 = .ok (.putfield 42, 3) := by decide +kernel
theorem dX0_init_60 : decode cX0_init 60 = .ok (.aload_n 0, 1) := by decide +kernel
theorem dX0_init_61 : decode cX0_init 61 = .ok (.iconst 0, 1) := by decide +kernel
theorem dX0_init_62 : decode cX0_init 62 = .ok (.putfield 45, 3) := by decide +kernel
theorem dX0_init_65 : decode cX0_init 65 = .ok (.aload_n 0, 1) := by decide +kernel
theorem dX0_init_66 : decode cX0_init 66 = .ok (.iconst 0, 1) := by decide +kernel
theorem dX0_init_67 : decode cX0_init 67 = .ok (.putfield 49, 3) := by decide +kernel
theorem dX0_init_70 : decode cX0_init 70 = .ok (.aload_n 0, 1) := by decide +kernel
theorem dX0_init_71 : decode cX0_init 71 = .ok (.iconst 0, 1) := by decide +kernel
theorem dX0_init_72 : decode cX0_init 72 = .ok (.putfield 52, 3) := by decide +kernel
theorem dX0_init_75 : decode cX0_init 75 = .ok (.iconst 0, 1) := by decide +kernel
theorem dX0_init_76 : decode cX0_init 76 = .ok (.istore_n 1, 1) := by decide +kernel
theorem dX0_init_77 : decode cX0_init 77 = .ok (.iload_n 1, 1) := by decide +kernel
theorem dX0_init_78 : decode cX0_init 78 = .ok (.iconst 4, 1) := by decide +kernel
theorem dX0_init_79 : decode cX0_init 79 = .ok (.if_icmp .ge 22, 3) := by decide +kernel
theorem dX0_init_82 : decode cX0_init 82 = .ok (.aload_n 0, 1) := by decide +kernel
theorem dX0_init_83 : decode cX0_init 83 = .ok (.getfield 20, 3) := by decide +kernel
theorem dX0_init_86 : decode cX0_init 86 = .ok (.iload_n 1, 1) := by decide +kernel
theorem dX0_init_87 : decode cX0_init 87 = .ok (.new 18, 3) := by decide +kernel
theorem dX0_init_90 : decode cX0_init 90 = .ok (.dup, 1) := by decide +kernel
theorem dX0_init_91 : decode cX0_init 91 = .ok (.invokespecial 55, 3) := by decide +kernel
theorem dX0_init_94 : decode cX0_init 94 = .ok (.aastore, 1) := by decide +kernel
theorem dX0_init_95 : decode cX0_init 95 = .ok (.iinc 1 1, 3) := by decide +kernel
theorem dX0_init_98 : decode cX0_init 98 = .ok (.goto (-21), 3) := by decide +kernel
theorem dX0_init_101 : decode cX0_init 101 = .ok (.return_, 1) := by decide +kernel
set_option maxRecDepth 20000 in
theorem ggX0_copyFrom_X1_copyFrom : GoodIn wsX0_copyFrom wsX1_copyFrom := goodIn_r _ [18, 19, 20, 5, 6, 7, 21, 22, 23, 24, 25, 48, 49, 50, 51, 52, 53] (by decide +kernel) (by decide +kernel)
set_option maxRecDepth 20000 in
theorem gX0_copyFrom_X1_copyFrom : GoodIn wsX0_copyFrom (wsV RX0 56 RX1 yX1_copyFrom wsX1_copyFrom) := goodIn_app (goodIn_of _ (by decide +kernel)) ggX0_copyFrom_X1_copyFrom
set_option maxRecDepth 20000 in
theorem ggX0_copyFrom_X3_copyFrom : GoodIn wsX0_copyFrom wsX3_copyFrom := goodIn_r _ [30, 31, 32, 33, 34, 35, 36, 37, 38, 54, 55, 56, 57, 58, 59, 60, 61] (by decide +kernel) (by decide +kernel)
set_option maxRecDepth 20000 in
theorem gX0_copyFrom_X3_copyFrom : GoodIn wsX0_copyFrom (wsV RX0 60 RX3 yX3_copyFrom wsX3_copyFrom) := goodIn_app (goodIn_of _ (by decide +kernel)) ggX0_copyFrom_X3_copyFrom
theorem dX0_copyFrom_0 : decode cX0_copyFrom 0 = .ok (.aload_n 0, 1) := by decide +kernel
theorem dX0_copyFrom_1 : decode cX0_copyFrom 1 = .ok (.getfield 12, 3) := by decide +kernel
theorem dX0_copyFrom_4 : decode cX0_copyFrom 4 = .ok (.aload_n 1, 1) := by decide +kernel
theorem dX0_copyFrom_5 : decode cX0_copyFrom 5 = .ok (.getfield 12, 3) := by decide +kernel
theorem dX0_copyFrom_8 : decode cX0_copyFrom 8 = .ok (.invokevirtual 56, 3) := by decide +kernel
theorem dX0_copyFrom_11 : decode cX0_copyFrom 11 = .ok (.iconst 0, 1) := by decide +kernel
theorem dX0_copyFrom_12 : decode cX0_copyFrom 12 = .ok (.istore_n 2, 1) := by decide +kernel
theorem dX0_copyFrom_13 : decode cX0_copyFrom 13 = .ok (.iload_n 2, 1) := by decide +kernel
theorem dX0_copyFrom_14 : decode cX0_copyFrom 14 = .ok (.iconst 4, 1) := by decide +kernel
theorem dX0_copyFrom_15 : decode cX0_copyFrom 15 = .ok (.if_icmp .ge 24, 3) := by decide +kernel
theorem dX0_copyFrom_18 : decode cX0_copyFrom 18 = .ok (.aload_n 0, 1) := by decide +kernel
theorem dX0_copyFrom_19 : decode cX0_copyFrom 19 = .ok (.getfield 20, 3) := by decide +kernel
theorem dX0_copyFrom_22 : decode cX0_copyFrom 22 = .ok (.iload_n 2, 1) := by decide +kernel
theorem dX0_copyFrom_23 : decode cX0_copyFrom 23 = .ok (.aaload, 1) := by decide +kernel
theorem dX0_copyFrom_24 : decode cX0_copyFrom 24 = .ok (.aload_n 1, 1) := by decide +kernel
theorem dX0_copyFrom_25 : decode cX0_copyFrom 25 = .ok (.getfield 20, 3) := by decide +kernel
theorem dX0_copyFrom_28 : decode cX0_copyFrom 28 = .ok (.iload_n 2, 1) := by decide +kernel
theorem dX0_copyFrom_29 : decode cX0_copyFrom 29 = .ok (.aaload, 1) := by decide +kernel
theorem dX0_copyFrom_30 : decode cX0_copyFrom 30 = .ok (.invokevirtual 60, 3) := by decide +kernel
theorem dX0_copyFrom_33 : decode cX0_copyFrom 33 = .ok (.iinc 2 1, 3) := by decide +kernel
theorem dX0_copyFrom_36 : decode cX0_copyFrom 36 = .ok (.goto (-23), 3) := by decide +kernel
theorem dX0_copyFrom_39 : decode cX0_copyFrom 39 = .ok (.aload_n 1, 1) := by decide +kernel
theorem dX0_copyFrom_40 : decode cX0_copyFrom 40 = .ok (.getfield 33, 3) := by decide +kernel
theorem dX0_copyFrom_43 : decode cX0_copyFrom 43 = .ok (.iconst 0, 1) := by decide +kernel
theorem dX0_copyFrom_44 : decode cX0_copyFrom 44 = .ok (.aload_n 0, 1) := by decide +kernel
theorem dX0_copyFrom_45 : decode cX0_copyFrom 45 = .ok (.getfield 33, 3) := by decide +kernel
theorem dX0_copyFrom_48 : decode cX0_copyFrom 48 = .ok (.iconst 0, 1) := by decide +kernel
theorem dX0_copyFrom_49 : decode cX0_copyFrom 49 = .ok (.aload_n 0, 1) := by decide +kernel
theorem dX0_copyFrom_50 : decode cX0_copyFrom 50 = .ok (.getfield 33, 3) := by decide +kernel
theorem dX0_copyFrom_53 : decode cX0_copyFrom 53 = .ok (.arraylength, 1) := by decide +kernel
theorem dX0_copyFrom_54 : decode cX0_copyFrom 54 = .ok (.invokestatic 63, 3) := by decide +kernel
theorem dX0_copyFrom_57 : decode cX0_copyFrom 57 = .ok (.aload_n 1, 1) := by decide +kernel
theorem dX0_copyFrom_58 : decode cX0_copyFrom 58 = .ok (.getfield 36, 3) := by decide +kernel
theorem dX0_copyFrom_61 : decode cX0_copyFrom 61 = .ok (.iconst 0, 1) := by decide +kernel
theorem dX0_copyFrom_62 : decode cX0_copyFrom 62 = .ok (.aload_n 0, 1) := by decide +kernel
theorem dX0_copyFrom_63 : decode cX0_copyFrom 63 = .ok (.getfield 36, 3) := by decide +kernel
theorem dX0_copyFrom_66 : decode cX0_copyFrom 66 = .ok (.iconst 0, 1) := by decide +kernel
theorem dX0_copyFrom_67 : decode cX0_copyFrom 67 = .ok (.bipush 8, 2) := by decide +kernel
theorem dX0_copyFrom_69 : decode cX0_copyFrom 69 = .ok (.invokestatic 63, 3) := by decide +kernel
theorem dX0_copyFrom_72 : decode cX0_copyFrom 72 = .ok (.aload_n 1, 1) := by decide +kernel
theorem dX0_copyFrom_73 : decode cX0_copyFrom 73 = .ok (.getfield 39, 3) := by decide +kernel
theorem dX0_copyFrom_76 : decode cX0_copyFrom 76 = .ok (.iconst 0, 1) := by decide +kernel
theorem dX0_copyFrom_77 : decode cX0_copyFrom 77 = .ok (.aload_n 0, 1) := by decide +kernel
theorem dX0_copyFrom_78 : decode cX0_copyFrom 78 = .ok (.getfield 39, 3) := by decide +kernel
theorem dX0_copyFrom_81 : decode cX0_copyFrom 81 = .ok (.iconst 0, 1) := by decide +kernel
theorem dX0_copyFrom_82 : decode cX0_copyFrom 82 = .ok (.bipush 30, 2) := by decide +kernel
theorem dX0_copyFrom_84 : decode cX0_copyFrom 84 = .ok (.invokestatic 63, 3) := by decide +kernel
theorem dX0_copyFrom_87 : decode cX0_copyFrom 87 = .ok (.aload_n 1, 1) := by decide +kernel
theorem dX0_copyFrom_88 : decode cX0_copyFrom 88 = .ok (.getfield 42, 3) := by decide +kernel
theorem dX0_copyFrom_91 : decode cX0_copyFrom 91 = .ok (.iconst 0, 1) := by decide +kernel
theorem dX0_copyFrom_92 : decode cX0_copyFrom 92 = .ok (.aload_n 0, 1) := by decide +kernel
theorem dX0_copyFrom_93 : decode cX0_copyFrom 93 = .ok (.getfield 42, 3) := by decide +kernel
theorem dX0_copyFrom_96 : decode cX0_copyFrom 96 = .ok (.iconst 0, 1) := by decide +kernel
theorem dX0_copyFrom_97 : decode cX0_copyFrom 97 = .ok (.bipush 30, 2) := by decide +kernel
theorem dX0_copyFrom_99 : decode cX0_copyFrom 99 = .ok (.invokestatic 63, 3) := by decide +kernel
theorem dX0_copyFrom_102 : decode cX0_copyFrom 102 = .ok (.aload_n 0, 1) := by decide +kernel
theorem dX0_copyFrom_103 : decode cX0_copyFrom 103 = .ok (.aload_n 1, 1) := by decide +kernel
theorem dX0_copyFrom_104 : decode cX0_copyFrom 104 = .ok (.getfield 45, 3) := by decide +kernel
theorem dX0_copyFrom_107 : decode cX0_copyFrom 107 = .ok (.putfield 45, 3) := by decide +kernel
theorem dX0_copyFrom_110 : decode cX0_copyFrom 110 = .ok (.aload_n 0, 1) := by decide +kernel
theorem dX0_copyFrom_111 : decode cX0_copyFrom 111 = .ok (.aload_n 1, 1) := by decide +kernel
theorem dX0_copyFrom_112 : decode cX0_copyFrom 112 = .ok (.getfield 49, 3) := by decide +kernel
theorem dX0_copyFrom_115 : decode cX0_copyFrom 115 = .ok (.putfield 49, 3) := by decide +kernel
theorem dX0_copyFrom_118 : decode cX0_copyFrom 118 = .ok (.aload_n 0, 1) := by decide +kernel
theorem dX0_copyFrom_119 : decode cX0_copyFrom 119 = .ok (.aload_n 1, 1) := by decide +kernel
theorem dX0_copyFrom_120 : decode cX0_copyFrom 120 = .ok (.getfield 52, 3) := by decide +kernel
theorem dX0_copyFrom_123 : decode cX0_copyFrom 123 = .ok (.putfield 52, 3) := by decide +kernel
theorem dX0_copyFrom_126 : decode cX0_copyFrom 126 = .ok (.return_, 1) := by decide +kernel
set_option maxRecDepth 20000 in
theorem ggX0_begin_X1_read : GoodIn wsX0_begin wsX1_read := goodIn_r _ [10, 11, 12, 13, 14, 15, 16, 17, 18, 19, 20, 9, 21, 22, 23, 24, 25, 35, 36, 37, 38, 39, 40, 41, 42] (by decide +kernel) (by decide +kernel)
set_option maxRecDepth 20000 in
theorem gX0_begin_X1_read : GoodIn wsX0_begin (wsV RX0 69 RX1 yX1_read wsX1_read) := goodIn_app (goodIn_of _ (by decide +kernel)) ggX0_begin_X1_read
theorem dX0_begin_0 : decode cX0_begin 0 = .ok (.aload_n 0, 1) := by decide +kernel
theorem dX0_begin_1 : decode cX0_begin 1 = .ok (.getfield 12, 3) := by decide +kernel
theorem dX0_begin_4 : decode cX0_begin 4 = .ok (.aload_n 1, 1) := by decide +kernel
theorem dX0_begin_5 : decode cX0_begin 5 = .ok (.invokevirtual 69, 3) := by decide +kernel
theorem dX0_begin_8 : decode cX0_begin 8 = .ok (.aload_n 0, 1) := by decide +kernel
theorem dX0_begin_9 : decode cX0_begin 9 = .ok (.iconst 0, 1) := by decide +kernel
theorem dX0_begin_10 : decode cX0_begin 10 = .ok (.putfield 45, 3) := by decide +kernel
theorem dX0_begin_13 : decode cX0_begin 13 = .ok (.aload_n 0, 1) := by decide +kernel
theorem dX0_begin_14 : decode cX0_begin 14 = .ok (.iconst 0, 1) := by decide +kernel
theorem dX0_begin_15 : decode cX0_begin 15 = .ok (.putfield 49, 3) := by decide +kernel
theorem dX0_begin_18 : decode cX0_begin 18 = .ok (.aload_n 0, 1) := by decide +kernel
theorem dX0_begin_19 : decode cX0_begin 19 = .ok (.iconst 0, 1) := by decide +kernel
theorem dX0_begin_20 : decode cX0_begin 20 = .ok (.putfield 52, 3) := by decide +kernel
theorem dX0_begin_23 : decode cX0_begin 23 = .ok (.iconst 0, 1) := by decide +kernel
theorem dX0_begin_24 : decode cX0_begin 24 = .ok (.istore_n 2, 1) := by decide +kernel
theorem dX0_begin_25 : decode cX0_begin 25 = .ok (.iload_n 2, 1) := by decide +kernel
theorem dX0_begin_26 : decode cX0_begin 26 = .ok (.bipush 8, 2) := by decide +kernel
theorem dX0_begin_28 : decode cX0_begin 28 = .ok (.if_icmp .ge 16, 3) := by decide +kernel
theorem dX0_begin_31 : decode cX0_begin 31 = .ok (.aload_n 0, 1) := by decide +kernel
theorem dX0_begin_32 : decode cX0_begin 32 = .ok (.getfield 36, 3) := by decide +kernel
theorem dX0_begin_35 : decode cX0_begin 35 = .ok (.iload_n 2, 1) := by decide +kernel
theorem dX0_begin_36 : decode cX0_begin 36 = .ok (.iconst 0, 1) := by decide +kernel
theorem dX0_begin_37 : decode cX0_begin 37 = .ok (.iastore, 1) := by decide +kernel
theorem dX0_begin_38 : decode cX0_begin 38 = .ok (.iinc 2 1, 3) := by decide +kernel
theorem dX0_begin_41 : decode cX0_begin 41 = .ok (.goto (-16), 3) := by decide +kernel
theorem dX0_begin_44 : decode cX0_begin 44 = .ok (.return_, 1) := by decide +kernel
set_option maxRecDepth 20000 in
theorem ggX0_putTrain_X3_begin : GoodIn wsX0_putTrain wsX3_begin := goodIn_r _ [10, 11, 12, 13, 14, 15, 16, 9, 17, 18, 19, 20, 21, 22, 38, 39, 40, 41, 42, 43, 44, 45] (by decide +kernel) (by decide +kernel)
set_option maxRecDepth 20000 in
theorem gX0_putTrain_X3_begin : GoodIn wsX0_putTrain (wsV RX0 76 RX3 yX3_begin wsX3_begin) := goodIn_app (goodIn_of _ (by decide +kernel)) ggX0_putTrain_X3_begin
theorem dX0_putTrain_0 : decode cX0_putTrain 0 = .ok (.aload_n 0, 1) := by decide +kernel
theorem dX0_putTrain_1 : decode cX0_putTrain 1 = .ok (.getfield 45, 3) := by decide +kernel
theorem dX0_putTrain_4 : decode cX0_putTrain 4 = .ok (.iconst 4, 1) := by decide +kernel
theorem dX0_putTrain_5 : decode cX0_putTrain 5 = .ok (.if_icmp .ge 40, 3) := by decide +kernel
theorem dX0_putTrain_8 : decode cX0_putTrain 8 = .ok (.aload_n 0, 1) := by decide +kernel
theorem dX0_putTrain_9 : decode cX0_putTrain 9 = .ok (.getfield 20, 3) := by decide +kernel
theorem dX0_putTrain_12 : decode cX0_putTrain 12 = .ok (.aload_n 0, 1) := by decide +kernel
theorem dX0_putTrain_13 : decode cX0_putTrain 13 = .ok (.getfield 45, 3) := by decide +kernel
theorem dX0_putTrain_16 : decode cX0_putTrain 16 = .ok (.aaload, 1) := by decide +kernel
theorem dX0_putTrain_17 : decode cX0_putTrain 17 = .ok (.aload_n 0, 1) := by decide +kernel
theorem dX0_putTrain_18 : decode cX0_putTrain 18 = .ok (.getfield 12, 3) := by decide +kernel
theorem dX0_putTrain_21 : decode cX0_putTrain 21 = .ok (.getfield 73, 3) := by decide +kernel
theorem dX0_putTrain_24 : decode cX0_putTrain 24 = .ok (.iload_n 1, 1) := by decide +kernel
theorem dX0_putTrain_25 : decode cX0_putTrain 25 = .ok (.iaload, 1) := by decide +kernel
theorem dX0_putTrain_26 : decode cX0_putTrain 26 = .ok (.aload_n 0, 1) := by decide +kernel
theorem dX0_putTrain_27 : decode cX0_putTrain 27 = .ok (.getfield 33, 3) := by decide +kernel
theorem dX0_putTrain_30 : decode cX0_putTrain 30 = .ok (.iconst 3, 1) := by decide +kernel
theorem dX0_putTrain_31 : decode cX0_putTrain 31 = .ok (.iaload, 1) := by decide +kernel
theorem dX0_putTrain_32 : decode cX0_putTrain 32 = .ok (.invokevirtual 76, 3) := by decide +kernel
theorem dX0_putTrain_35 : decode cX0_putTrain 35 = .ok (.aload_n 0, 1) := by decide +kernel
theorem dX0_putTrain_36 : decode cX0_putTrain 36 = .ok (.dup, 1) := by decide +kernel
theorem dX0_putTrain_37 : decode cX0_putTrain 37 = .ok (.getfield 45, 3) := by decide +kernel
theorem dX0_putTrain_40 : decode cX0_putTrain 40 = .ok (.iconst 1, 1) := by decide +kernel
theorem dX0_putTrain_41 : decode cX0_putTrain 41 = .ok (.iadd, 1) := by decide +kernel
theorem dX0_putTrain_42 : decode cX0_putTrain 42 = .ok (.putfield 45, 3) := by decide +kernel
theorem dX0_putTrain_45 : decode cX0_putTrain 45 = .ok (.return_, 1) := by decide +kernel
theorem dX0_blockOf_0 : decode cX0_blockOf 0 = .ok (.aload_n 0, 1) := by decide +kernel
theorem dX0_blockOf_1 : decode cX0_blockOf 1 = .ok (.getfield 12, 3) := by decide +kernel
theorem dX0_blockOf_4 : decode cX0_blockOf 4 = .ok (.getfield 80, 3) := by decide +kernel
theorem dX0_blockOf_7 : decode cX0_blockOf 7 = .ok (.aload_n 1, 1) := by decide +kernel
theorem dX0_blockOf_8 : decode cX0_blockOf 8 = .ok (.getfield 83, 3) := by decide +kernel
theorem dX0_blockOf_11 : decode cX0_blockOf 11 = .ok (.iaload, 1) := by decide +kernel
theorem dX0_blockOf_12 : decode cX0_blockOf 12 = .ok (.ireturn, 1) := by decide +kernel
theorem dX0_dragOf_0 : decode cX0_dragOf 0 = .ok (.aload_n 1, 1) := by decide +kernel
theorem dX0_dragOf_1 : decode cX0_dragOf 1 = .ok (.getfield 86, 3) := by decide +kernel
theorem dX0_dragOf_4 : decode cX0_dragOf 4 = .ok (.bipush 60, 2) := by decide +kernel
theorem dX0_dragOf_6 : decode cX0_dragOf 6 = .ok (.if_icmp .ge 16, 3) := by decide +kernel
theorem dX0_dragOf_9 : decode cX0_dragOf 9 = .ok (.bipush 60, 2) := by decide +kernel
theorem dX0_dragOf_11 : decode cX0_dragOf 11 = .ok (.aload_n 1, 1) := by decide +kernel
theorem dX0_dragOf_12 : decode cX0_dragOf 12 = .ok (.getfield 86, 3) := by decide +kernel
theorem dX0_dragOf_15 : decode cX0_dragOf 15 = .ok (.isub, 1) := by decide +kernel
theorem dX0_dragOf_16 : decode cX0_dragOf 16 = .ok (.bipush 10, 2) := by decide +kernel
theorem dX0_dragOf_18 : decode cX0_dragOf 18 = .ok (.idiv, 1) := by decide +kernel
theorem dX0_dragOf_19 : decode cX0_dragOf 19 = .ok (.goto 4, 3) := by decide +kernel
theorem dX0_dragOf_22 : decode cX0_dragOf 22 = .ok (.iconst 0, 1) := by decide +kernel
theorem dX0_dragOf_23 : decode cX0_dragOf 23 = .ok (.istore_n 2, 1) := by decide +kernel
theorem dX0_dragOf_24 : decode cX0_dragOf 24 = .ok (.aload_n 0, 1) := by decide +kernel
theorem dX0_dragOf_25 : decode cX0_dragOf 25 = .ok (.getfield 33, 3) := by decide +kernel
theorem dX0_dragOf_28 : decode cX0_dragOf 28 = .ok (.iconst 0, 1) := by decide +kernel
theorem dX0_dragOf_29 : decode cX0_dragOf 29 = .ok (.iaload, 1) := by decide +kernel
theorem dX0_dragOf_30 : decode cX0_dragOf 30 = .ok (.iload_n 2, 1) := by decide +kernel
theorem dX0_dragOf_31 : decode cX0_dragOf 31 = .ok (.iadd, 1) := by decide +kernel
theorem dX0_dragOf_32 : decode cX0_dragOf 32 = .ok (.ireturn, 1) := by decide +kernel
theorem dX0_trainOnCell_0 : decode cX0_trainOnCell 0 = .ok (.iconst 0, 1) := by decide +kernel
theorem dX0_trainOnCell_1 : decode cX0_trainOnCell 1 = .ok (.istore_n 2, 1) := by decide +kernel
theorem dX0_trainOnCell_2 : decode cX0_trainOnCell 2 = .ok (.iload_n 2, 1) := by decide +kernel
theorem dX0_trainOnCell_3 : decode cX0_trainOnCell 3 = .ok (.aload_n 0, 1) := by decide +kernel
theorem dX0_trainOnCell_4 : decode cX0_trainOnCell 4 = .ok (.getfield 45, 3) := by decide +kernel
theorem dX0_trainOnCell_7 : decode cX0_trainOnCell 7 = .ok (.if_icmp .ge 24, 3) := by decide +kernel
theorem dX0_trainOnCell_10 : decode cX0_trainOnCell 10 = .ok (.aload_n 0, 1) := by decide +kernel
theorem dX0_trainOnCell_11 : decode cX0_trainOnCell 11 = .ok (.getfield 20, 3) := by decide +kernel
theorem dX0_trainOnCell_14 : decode cX0_trainOnCell 14 = .ok (.iload_n 2, 1) := by decide +kernel
theorem dX0_trainOnCell_15 : decode cX0_trainOnCell 15 = .ok (.aaload, 1) := by decide +kernel
theorem dX0_trainOnCell_16 : decode cX0_trainOnCell 16 = .ok (.getfield 83, 3) := by decide +kernel
theorem dX0_trainOnCell_19 : decode cX0_trainOnCell 19 = .ok (.iload_n 1, 1) := by decide +kernel
theorem dX0_trainOnCell_20 : decode cX0_trainOnCell 20 = .ok (.if_icmp .ne 5, 3) := by decide +kernel
theorem dX0_trainOnCell_23 : decode cX0_trainOnCell 23 = .ok (.iload_n 2, 1) := by decide +kernel
theorem dX0_trainOnCell_24 : decode cX0_trainOnCell 24 = .ok (.ireturn, 1) := by decide +kernel
theorem dX0_trainOnCell_25 : decode cX0_trainOnCell 25 = .ok (.iinc 2 1, 3) := by decide +kernel
theorem dX0_trainOnCell_28 : decode cX0_trainOnCell 28 = .ok (.goto (-26), 3) := by decide +kernel
theorem dX0_trainOnCell_31 : decode cX0_trainOnCell 31 = .ok (.iconst (-1), 1) := by decide +kernel
theorem dX0_trainOnCell_32 : decode cX0_trainOnCell 32 = .ok (.ireturn, 1) := by decide +kernel
theorem dX0_trainInBlock_0 : decode cX0_trainInBlock 0 = .ok (.iconst 0, 1) := by decide +kernel
theorem dX0_trainInBlock_1 : decode cX0_trainInBlock 1 = .ok (.istore_n 2, 1) := by decide +kernel
theorem dX0_trainInBlock_2 : decode cX0_trainInBlock 2 = .ok (.iload_n 2, 1) := by decide +kernel
theorem dX0_trainInBlock_3 : decode cX0_trainInBlock 3 = .ok (.aload_n 0, 1) := by decide +kernel
theorem dX0_trainInBlock_4 : decode cX0_trainInBlock 4 = .ok (.getfield 45, 3) := by decide +kernel
theorem dX0_trainInBlock_7 : decode cX0_trainInBlock 7 = .ok (.if_icmp .ge 32, 3) := by decide +kernel
theorem dX0_trainInBlock_10 : decode cX0_trainInBlock 10 = .ok (.aload_n 0, 1) := by decide +kernel
theorem dX0_trainInBlock_11 : decode cX0_trainInBlock 11 = .ok (.getfield 12, 3) := by decide +kernel
theorem dX0_trainInBlock_14 : decode cX0_trainInBlock 14 = .ok (.getfield 80, 3) := by decide +kernel
theorem dX0_trainInBlock_17 : decode cX0_trainInBlock 17 = .ok (.aload_n 0, 1) := by decide +kernel
theorem dX0_trainInBlock_18 : decode cX0_trainInBlock 18 = .ok (.getfield 20, 3) := by decide +kernel
theorem dX0_trainInBlock_21 : decode cX0_trainInBlock 21 = .ok (.iload_n 2, 1) := by decide +kernel
theorem dX0_trainInBlock_22 : decode cX0_trainInBlock 22 = .ok (.aaload, 1) := by decide +kernel
theorem dX0_trainInBlock_23 : decode cX0_trainInBlock 23 = .ok (.getfield 83, 3) := by decide +kernel
theorem dX0_trainInBlock_26 : decode cX0_trainInBlock 26 = .ok (.iaload, 1) := by decide +kernel
theorem dX0_trainInBlock_27 : decode cX0_trainInBlock 27 = .ok (.iload_n 1, 1) := by decide +kernel
theorem dX0_trainInBlock_28 : decode cX0_trainInBlock 28 = .ok (.if_icmp .ne 5, 3) := by decide +kernel
theorem dX0_trainInBlock_31 : decode cX0_trainInBlock 31 = .ok (.iload_n 2, 1) := by decide +kernel
theorem dX0_trainInBlock_32 : decode cX0_trainInBlock 32 = .ok (.ireturn, 1) := by decide +kernel
theorem dX0_trainInBlock_33 : decode cX0_trainInBlock 33 = .ok (.iinc 2 1, 3) := by decide +kernel
theorem dX0_trainInBlock_36 : decode cX0_trainInBlock 36 = .ok (.goto (-34), 3) := by decide +kernel
theorem dX0_trainInBlock_39 : decode cX0_trainInBlock 39 = .ok (.iconst (-1), 1) := by decide +kernel
theorem dX0_trainInBlock_40 : decode cX0_trainInBlock 40 = .ok (.ireturn, 1) := by decide +kernel
set_option maxRecDepth 20000 in
theorem ggX0_isFree_X1_brakeBefore : GoodIn wsX0_isFree wsX1_brakeBefore := goodIn_r _ [8, 9, 10, 40, 41, 42, 43, 44, 45] (by decide +kernel) (by decide +kernel)
set_option maxRecDepth 20000 in
theorem gX0_isFree_X1_brakeBefore : GoodIn wsX0_isFree (wsV RX0 89 RX1 yX1_brakeBefore wsX1_brakeBefore) := goodIn_app (goodIn_of _ (by decide +kernel)) ggX0_isFree_X1_brakeBefore
set_option maxRecDepth 20000 in
theorem ggX0_isFree_X0_trainOnCell : GoodIn wsX0_isFree wsX0_trainOnCell := goodIn_r _ [15, 16, 2, 17, 23, 24, 25, 26, 27, 28, 29, 30, 31, 32, 33, 34, 35, 36, 37, 38, 39] (by decide +kernel) (by decide +kernel)
set_option maxRecDepth 20000 in
theorem gX0_isFree_X0_trainOnCell : GoodIn wsX0_isFree (wsV RX0 93 RX0 yX0_trainOnCell wsX0_trainOnCell) := goodIn_app (goodIn_of _ (by decide +kernel)) ggX0_isFree_X0_trainOnCell
set_option maxRecDepth 20000 in
theorem ggX0_isFree_X0_trainInBlock : GoodIn wsX0_isFree wsX0_trainInBlock := goodIn_r _ [21, 16, 1, 22, 2, 17, 23, 24, 25, 26, 27, 28, 29, 30, 31, 40, 41, 42, 43, 44, 45, 32, 33, 34, 35, 36, 37, 38, 39] (by decide +kernel) (by decide +kernel)
set_option maxRecDepth 20000 in
theorem gX0_isFree_X0_trainInBlock : GoodIn wsX0_isFree (wsV RX0 99 RX0 yX0_trainInBlock wsX0_trainInBlock) := goodIn_app (goodIn_of _ (by decide +kernel)) ggX0_isFree_X0_trainInBlock
theorem dX0_isFree_0 : decode cX0_isFree 0 = .ok (.aload_n 0, 1) := by decide +kernel
theorem dX0_isFree_1 : decode cX0_isFree 1 = .ok (.aload_n 0, 1) := by decide +kernel
theorem dX0_isFree_2 : decode cX0_isFree 2 = .ok (.getfield 12, 3) := by decide +kernel
theorem dX0_isFree_5 : decode cX0_isFree 5 = .ok (.iload_n 1, 1) := by decide +kernel
theorem dX0_isFree_6 : decode cX0_isFree 6 = .ok (.invokevirtual 89, 3) := by decide +kernel
theorem dX0_isFree_9 : decode cX0_isFree 9 = .ok (.invokevirtual 93, 3) := by decide +kernel
theorem dX0_isFree_12 : decode cX0_isFree 12 = .ok (.istore_n 2, 1) := by decide +kernel
theorem dX0_isFree_13 : decode cX0_isFree 13 = .ok (.iload_n 2, 1) := by decide +kernel
theorem dX0_isFree_14 : decode cX0_isFree 14 = .ok (.iconst (-1), 1) := by decide +kernel
theorem dX0_isFree_15 : decode cX0_isFree 15 = .ok (.if_icmp .eq 17, 3) := by decide +kernel
theorem dX0_isFree_18 : decode cX0_isFree 18 = .ok (.aload_n 0, 1) := by decide +kernel
theorem dX0_isFree_19 : decode cX0_isFree 19 = .ok (.getfield 20, 3) := by decide +kernel
theorem dX0_isFree_22 : decode cX0_isFree 22 = .ok (.iload_n 2, 1) := by decide +kernel
theorem dX0_isFree_23 : decode cX0_isFree 23 = .ok (.aaload, 1) := by decide +kernel
theorem dX0_isFree_24 : decode cX0_isFree 24 = .ok (.getfield 96, 3) := by decide +kernel
theorem dX0_isFree_27 : decode cX0_isFree 27 = .ok (.ifCond .ne 5, 3) := by decide +kernel
theorem dX0_isFree_30 : decode cX0_isFree 30 = .ok (.iconst 0, 1) := by decide +kernel
theorem dX0_isFree_31 : decode cX0_isFree 31 = .ok (.ireturn, 1) := by decide +kernel
theorem dX0_isFree_32 : decode cX0_isFree 32 = .ok (.aload_n 0, 1) := by decide +kernel
theorem dX0_isFree_33 : decode cX0_isFree 33 = .ok (.iload_n 1, 1) := by decide +kernel
theorem dX0_isFree_34 : decode cX0_isFree 34 = .ok (.invokevirtual 99, 3) := by decide +kernel
theorem dX0_isFree_37 : decode cX0_isFree 37 = .ok (.iconst (-1), 1) := by decide +kernel
theorem dX0_isFree_38 : decode cX0_isFree 38 = .ok (.if_icmp .ne 7, 3) := by decide +kernel
theorem dX0_isFree_41 : decode cX0_isFree 41 = .ok (.iconst 1, 1) := by decide +kernel
theorem dX0_isFree_42 : decode cX0_isFree 42 = .ok (.goto 4, 3) := by decide +kernel
theorem dX0_isFree_45 : decode cX0_isFree 45 = .ok (.iconst 0, 1) := by decide +kernel
theorem dX0_isFree_46 : decode cX0_isFree 46 = .ok (.ireturn, 1) := by decide +kernel
theorem dX0_lyingTrains_0 : decode cX0_lyingTrains 0 = .ok (.iconst 0, 1) := by decide +kernel
theorem dX0_lyingTrains_1 : decode cX0_lyingTrains 1 = .ok (.istore_n 1, 1) := by decide +kernel
theorem dX0_lyingTrains_2 : decode cX0_lyingTrains 2 = .ok (.iconst 0, 1) := by decide +kernel
theorem dX0_lyingTrains_3 : decode cX0_lyingTrains 3 = .ok (.istore_n 2, 1) := by decide +kernel
theorem dX0_lyingTrains_4 : decode cX0_lyingTrains 4 = .ok (.iload_n 2, 1) := by decide +kernel
theorem dX0_lyingTrains_5 : decode cX0_lyingTrains 5 = .ok (.aload_n 0, 1) := by decide +kernel
theorem dX0_lyingTrains_6 : decode cX0_lyingTrains 6 = .ok (.getfield 45, 3) := by decide +kernel
theorem dX0_lyingTrains_9 : decode cX0_lyingTrains 9 = .ok (.if_icmp .ge 25, 3) := by decide +kernel
theorem dX0_lyingTrains_12 : decode cX0_lyingTrains 12 = .ok (.aload_n 0, 1) := by decide +kernel
theorem dX0_lyingTrains_13 : decode cX0_lyingTrains 13 = .ok (.getfield 20, 3) := by decide +kernel
theorem dX0_lyingTrains_16 : decode cX0_lyingTrains 16 = .ok (.iload_n 2, 1) := by decide +kernel
theorem dX0_lyingTrains_17 : decode cX0_lyingTrains 17 = .ok (.aaload, 1) := by decide +kernel
theorem dX0_lyingTrains_18 : decode cX0_lyingTrains 18 = .ok (.getfield 96, 3) := by decide +kernel
theorem dX0_lyingTrains_21 : decode cX0_lyingTrains 21 = .ok (.iconst 2, 1) := by decide +kernel
theorem dX0_lyingTrains_22 : decode cX0_lyingTrains 22 = .ok (.if_icmp .ne 6, 3) := by decide +kernel
theorem dX0_lyingTrains_25 : decode cX0_lyingTrains 25 = .ok (.iinc 1 1, 3) := by decide +kernel
theorem dX0_lyingTrains_28 : decode cX0_lyingTrains 28 = .ok (.iinc 2 1, 3) := by decide +kernel
theorem dX0_lyingTrains_31 : decode cX0_lyingTrains 31 = .ok (.goto (-27), 3) := by decide +kernel
theorem dX0_lyingTrains_34 : decode cX0_lyingTrains 34 = .ok (.iload_n 1, 1) := by decide +kernel
theorem dX0_lyingTrains_35 : decode cX0_lyingTrains 35 = .ok (.ireturn, 1) := by decide +kernel
theorem dX0_keptDispatches_0 : decode cX0_keptDispatches 0 = .ok (.aload_n 0, 1) := by decide +kernel
theorem dX0_keptDispatches_1 : decode cX0_keptDispatches 1 = .ok (.getfield 52, 3) := by decide +kernel
theorem dX0_keptDispatches_4 : decode cX0_keptDispatches 4 = .ok (.bipush 30, 2) := by decide +kernel
theorem dX0_keptDispatches_6 : decode cX0_keptDispatches 6 = .ok (.invokestatic 102, 3) := by decide +kernel
theorem dX0_keptDispatches_9 : decode cX0_keptDispatches 9 = .ok (.ireturn, 1) := by decide +kernel
theorem dX0_logPlace_0 : decode cX0_logPlace 0 = .ok (.aload_n 0, 1) := by decide +kernel
theorem dX0_logPlace_1 : decode cX0_logPlace 1 = .ok (.getfield 52, 3) := by decide +kernel
theorem dX0_logPlace_4 : decode cX0_logPlace 4 = .ok (.iconst 1, 1) := by decide +kernel
theorem dX0_logPlace_5 : decode cX0_logPlace 5 = .ok (.isub, 1) := by decide +kernel
theorem dX0_logPlace_6 : decode cX0_logPlace 6 = .ok (.iload_n 1, 1) := by decide +kernel
theorem dX0_logPlace_7 : decode cX0_logPlace 7 = .ok (.isub, 1) := by decide +kernel
theorem dX0_logPlace_8 : decode cX0_logPlace 8 = .ok (.bipush 30, 2) := by decide +kernel
theorem dX0_logPlace_10 : decode cX0_logPlace 10 = .ok (.irem, 1) := by decide +kernel
theorem dX0_logPlace_11 : decode cX0_logPlace 11 = .ok (.ireturn, 1) := by decide +kernel
set_option maxRecDepth 20000 in
theorem ggX0_latestDispatch_X0_logPlace : GoodIn wsX0_latestDispatch wsX0_logPlace := goodIn_r _ [7, 1, 8, 9, 10, 11, 12, 13, 14, 15, 16] (by decide +kernel) (by decide +kernel)
set_option maxRecDepth 20000 in
theorem gX0_latestDispatch_X0_logPlace : GoodIn wsX0_latestDispatch (wsV RX0 108 RX0 yX0_logPlace wsX0_logPlace) := goodIn_app (goodIn_of _ (by decide +kernel)) ggX0_latestDispatch_X0_logPlace
theorem dX0_latestDispatch_0 : decode cX0_latestDispatch 0 = .ok (.aload_n 0, 1) := by decide +kernel
theorem dX0_latestDispatch_1 : decode cX0_latestDispatch 1 = .ok (.getfield 52, 3) := by decide +kernel
theorem dX0_latestDispatch_4 : decode cX0_latestDispatch 4 = .ok (.ifCond .ne 7, 3) := by decide +kernel
theorem dX0_latestDispatch_7 : decode cX0_latestDispatch 7 = .ok (.iconst (-1), 1) := by decide +kernel
theorem dX0_latestDispatch_8 : decode cX0_latestDispatch 8 = .ok (.goto 13, 3) := by decide +kernel
theorem dX0_latestDispatch_11 : decode cX0_latestDispatch 11 = .ok (.aload_n 0, 1) := by decide +kernel
theorem dX0_latestDispatch_12 : decode cX0_latestDispatch 12 = .ok (.getfield 39, 3) := by decide +kernel
theorem dX0_latestDispatch_15 : decode cX0_latestDispatch 15 = .ok (.aload_n 0, 1) := by decide +kernel
theorem dX0_latestDispatch_16 : decode cX0_latestDispatch 16 = .ok (.iconst 0, 1) := by decide +kernel
theorem dX0_latestDispatch_17 : decode cX0_latestDispatch 17 = .ok (.invokevirtual 108, 3) := by decide +kernel
theorem dX0_latestDispatch_20 : decode cX0_latestDispatch 20 = .ok (.iaload, 1) := by decide +kernel
theorem dX0_latestDispatch_21 : decode cX0_latestDispatch 21 = .ok (.ireturn, 1) := by decide +kernel
set_option maxRecDepth 20000 in
theorem ggX0_reasonOf_X0_blockOf : GoodIn wsX0_reasonOf wsX0_blockOf := goodIn_r _ [11, 2, 12, 13, 56, 57, 58, 59, 60, 61, 62, 63, 64, 65, 66, 67, 68, 69, 70, 48, 49, 50, 51, 52, 53, 54, 55] (by decide +kernel) (by decide +kernel)
set_option maxRecDepth 20000 in
theorem gX0_reasonOf_X0_blockOf : GoodIn wsX0_reasonOf (wsV RX0 111 RX0 yX0_blockOf wsX0_blockOf) := goodIn_app (goodIn_of _ (by decide +kernel)) ggX0_reasonOf_X0_blockOf
set_option maxRecDepth 20000 in
theorem ggX0_reasonOf_X1_nextBlock : GoodIn wsX0_reasonOf wsX1_nextBlock := goodIn_r _ [18, 19, 65, 66, 67, 68, 69, 70] (by decide +kernel) (by decide +kernel)
set_option maxRecDepth 20000 in
theorem gX0_reasonOf_X1_nextBlock : GoodIn wsX0_reasonOf (wsV RX0 115 RX1 yX1_nextBlock wsX1_nextBlock) := goodIn_app (goodIn_of _ (by decide +kernel)) ggX0_reasonOf_X1_nextBlock
set_option maxRecDepth 20000 in
theorem ggX0_reasonOf_X0_isFree : GoodIn wsX0_reasonOf wsX0_isFree := goodIn_r _ [23, 2, 24, 1, 25, 26, 27, 17, 28, 29, 19, 30, 31, 32, 10, 33, 34, 13, 35, 36, 37, 38, 12, 56, 57, 58, 59, 60, 61, 62, 63, 64, 48, 49, 50, 51, 52, 53, 54, 55, 65, 66, 67, 68, 69, 70] (by decide +kernel) (by decide +kernel)
set_option maxRecDepth 20000 in
theorem gX0_reasonOf_X0_isFree : GoodIn wsX0_reasonOf (wsV RX0 118 RX0 yX0_isFree wsX0_isFree) := goodIn_app (goodIn_of _ (by decide +kernel)) ggX0_reasonOf_X0_isFree
set_option maxRecDepth 20000 in
theorem ggX0_reasonOf_X0_latestDispatch : GoodIn wsX0_reasonOf wsX0_latestDispatch := goodIn_r _ [42, 5, 43, 44, 45, 46, 10, 47, 56, 57, 58, 59, 60, 61, 62, 63, 64] (by decide +kernel) (by decide +kernel)
set_option maxRecDepth 20000 in
theorem gX0_reasonOf_X0_latestDispatch : GoodIn wsX0_reasonOf (wsV RX0 125 RX0 yX0_latestDispatch wsX0_latestDispatch) := goodIn_app (goodIn_of _ (by decide +kernel)) ggX0_reasonOf_X0_latestDispatch
theorem dX0_reasonOf_0 : decode cX0_reasonOf 0 = .ok (.aload_n 1, 1) := by decide +kernel
theorem dX0_reasonOf_1 : decode cX0_reasonOf 1 = .ok (.getfield 96, 3) := by decide +kernel
theorem dX0_reasonOf_4 : decode cX0_reasonOf 4 = .ok (.ifCond .ne 5, 3) := by decide +kernel
theorem dX0_reasonOf_7 : decode cX0_reasonOf 7 = .ok (.iconst 0, 1) := by decide +kernel
theorem dX0_reasonOf_8 : decode cX0_reasonOf 8 = .ok (.ireturn, 1) := by decide +kernel
theorem dX0_reasonOf_9 : decode cX0_reasonOf 9 = .ok (.aload_n 1, 1) := by decide +kernel
theorem dX0_reasonOf_10 : decode cX0_reasonOf 10 = .ok (.getfield 96, 3) := by decide +kernel
theorem dX0_reasonOf_13 : decode cX0_reasonOf 13 = .ok (.iconst 2, 1) := by decide +kernel
theorem dX0_reasonOf_14 : decode cX0_reasonOf 14 = .ok (.if_icmp .ne 5, 3) := by decide +kernel
theorem dX0_reasonOf_17 : decode cX0_reasonOf 17 = .ok (.iconst 1, 1) := by decide +kernel
theorem dX0_reasonOf_18 : decode cX0_reasonOf 18 = .ok (.ireturn, 1) := by decide +kernel
theorem dX0_reasonOf_19 : decode cX0_reasonOf 19 = .ok (.aload_n 0, 1) := by decide +kernel
theorem dX0_reasonOf_20 : decode cX0_reasonOf 20 = .ok (.aload_n 1, 1) := by decide +kernel
theorem dX0_reasonOf_21 : decode cX0_reasonOf 21 = .ok (.invokevirtual 111, 3) := by decide +kernel
theorem dX0_reasonOf_24 : decode cX0_reasonOf 24 = .ok (.istore_n 2, 1) := by decide +kernel
theorem dX0_reasonOf_25 : decode cX0_reasonOf 25 = .ok (.aload_n 0, 1) := by decide +kernel
theorem dX0_reasonOf_26 : decode cX0_reasonOf 26 = .ok (.aload_n 0, 1) := by decide +kernel
theorem dX0_reasonOf_27 : decode cX0_reasonOf 27 = .ok (.getfield 12, 3) := by decide +kernel
theorem dX0_reasonOf_30 : decode cX0_reasonOf 30 = .ok (.iload_n 2, 1) := by decide +kernel
theorem dX0_reasonOf_31 : decode cX0_reasonOf 31 = .ok (.invokevirtual 115, 3) := by decide +kernel
theorem dX0_reasonOf_34 : decode cX0_reasonOf 34 = .ok (.invokevirtual 118, 3) := by decide +kernel
theorem dX0_reasonOf_37 : decode cX0_reasonOf 37 = .ok (.ifCond .ne 5, 3) := by decide +kernel
theorem dX0_reasonOf_40 : decode cX0_reasonOf 40 = .ok (.iconst 2, 1) := by decide +kernel
theorem dX0_reasonOf_41 : decode cX0_reasonOf 41 = .ok (.ireturn, 1) := by decide +kernel
theorem dX0_reasonOf_42 : decode cX0_reasonOf 42 = .ok (.iload_n 2, 1) := by decide +kernel
theorem dX0_reasonOf_43 : decode cX0_reasonOf 43 = .ok (.ifCond .ne 7, 3) := by decide +kernel
theorem dX0_reasonOf_46 : decode cX0_reasonOf 46 = .ok (.iconst 1, 1) := by decide +kernel
theorem dX0_reasonOf_47 : decode cX0_reasonOf 47 = .ok (.goto 4, 3) := by decide +kernel
theorem dX0_reasonOf_50 : decode cX0_reasonOf 50 = .ok (.iconst 0, 1) := by decide +kernel
theorem dX0_reasonOf_51 : decode cX0_reasonOf 51 = .ok (.istore_n 3, 1) := by decide +kernel
theorem dX0_reasonOf_52 : decode cX0_reasonOf 52 = .ok (.iload_n 3, 1) := by decide +kernel
theorem dX0_reasonOf_53 : decode cX0_reasonOf 53 = .ok (.ifCond .eq 20, 3) := by decide +kernel
theorem dX0_reasonOf_56 : decode cX0_reasonOf 56 = .ok (.aload_n 1, 1) := by decide +kernel
theorem dX0_reasonOf_57 : decode cX0_reasonOf 57 = .ok (.getfield 122, 3) := by decide +kernel
theorem dX0_reasonOf_60 : decode cX0_reasonOf 60 = .ok (.iconst 1, 1) := by decide +kernel
theorem dX0_reasonOf_61 : decode cX0_reasonOf 61 = .ok (.iadd, 1) := by decide +kernel
theorem dX0_reasonOf_62 : decode cX0_reasonOf 62 = .ok (.aload_n 0, 1) := by decide +kernel
theorem dX0_reasonOf_63 : decode cX0_reasonOf 63 = .ok (.getfield 33, 3) := by decide +kernel
theorem dX0_reasonOf_66 : decode cX0_reasonOf 66 = .ok (.iconst 1, 1) := by decide +kernel
theorem dX0_reasonOf_67 : decode cX0_reasonOf 67 = .ok (.iaload, 1) := by decide +kernel
theorem dX0_reasonOf_68 : decode cX0_reasonOf 68 = .ok (.if_icmp .ge 5, 3) := by decide +kernel
theorem dX0_reasonOf_71 : decode cX0_reasonOf 71 = .ok (.iconst 3, 1) := by decide +kernel
theorem dX0_reasonOf_72 : decode cX0_reasonOf 72 = .ok (.ireturn, 1) := by decide +kernel
theorem dX0_reasonOf_73 : decode cX0_reasonOf 73 = .ok (.iload_n 3, 1) := by decide +kernel
theorem dX0_reasonOf_74 : decode cX0_reasonOf 74 = .ok (.ifCond .eq 30, 3) := by decide +kernel
theorem dX0_reasonOf_77 : decode cX0_reasonOf 77 = .ok (.aload_n 0, 1) := by decide +kernel
theorem dX0_reasonOf_78 : decode cX0_reasonOf 78 = .ok (.getfield 52, 3) := by decide +kernel
theorem dX0_reasonOf_81 : decode cX0_reasonOf 81 = .ok (.ifCond .le 23, 3) := by decide +kernel
theorem dX0_reasonOf_84 : decode cX0_reasonOf 84 = .ok (.aload_n 0, 1) := by decide +kernel
theorem dX0_reasonOf_85 : decode cX0_reasonOf 85 = .ok (.getfield 49, 3) := by decide +kernel
theorem dX0_reasonOf_88 : decode cX0_reasonOf 88 = .ok (.aload_n 0, 1) := by decide +kernel
theorem dX0_reasonOf_89 : decode cX0_reasonOf 89 = .ok (.invokevirtual 125, 3) := by decide +kernel
theorem dX0_reasonOf_92 : decode cX0_reasonOf 92 = .ok (.isub, 1) := by decide +kernel
theorem dX0_reasonOf_93 : decode cX0_reasonOf 93 = .ok (.aload_n 0, 1) := by decide +kernel
theorem dX0_reasonOf_94 : decode cX0_reasonOf 94 = .ok (.getfield 33, 3) := by decide +kernel
theorem dX0_reasonOf_97 : decode cX0_reasonOf 97 = .ok (.iconst 2, 1) := by decide +kernel
theorem dX0_reasonOf_98 : decode cX0_reasonOf 98 = .ok (.iaload, 1) := by decide +kernel
theorem dX0_reasonOf_99 : decode cX0_reasonOf 99 = .ok (.if_icmp .ge 5, 3) := by decide +kernel
theorem dX0_reasonOf_102 : decode cX0_reasonOf 102 = .ok (.iconst 4, 1) := by decide +kernel
theorem dX0_reasonOf_103 : decode cX0_reasonOf 103 = .ok (.ireturn, 1) := by decide +kernel
theorem dX0_reasonOf_104 : decode cX0_reasonOf 104 = .ok (.iconst 5, 1) := by decide +kernel
theorem dX0_reasonOf_105 : decode cX0_reasonOf 105 = .ok (.ireturn, 1) := by decide +kernel
set_option maxRecDepth 20000 in
theorem ggX0_tick_X0_waitOrStart : GoodIn wsX0_tick wsX0_waitOrStart := goodIn_r _ [10, 2, 11, 12, 13, 14, 9, 15, 3, 16, 4, 17, 5, 18, 19, 20, 21, 22, 23, 24, 25, 26, 27, 28, 29, 30, 31, 32, 33, 34, 35, 36, 37, 38, 39, 40, 41, 42, 1, 43, 44, 45, 46, 47, 48, 49, 50, 51, 52, 53, 54, 55, 56, 57, 58, 59, 60, 61, 62, 63, 64, 65, 66, 67, 68, 69, 133, 134, 135, 136, 137, 138, 139, 140, 141, 142, 143, 144, 145, 146, 147, 148, 149, 150, 151, 152, 153, 154, 155] (by decide +kernel) (by decide +kernel)
set_option maxRecDepth 20000 in
theorem gX0_tick_X0_waitOrStart : GoodIn wsX0_tick (wsV RX0 129 RX0 yX0_waitOrStart wsX0_waitOrStart) := goodIn_app (goodIn_of _ (by decide +kernel)) ggX0_tick_X0_waitOrStart
set_option maxRecDepth 20000 in
theorem ggX0_tick_X0_run : GoodIn wsX0_tick wsX0_run := goodIn_r _ [73, 74, 16, 75, 23, 76, 77, 78, 79, 59, 80, 61, 81, 82, 83, 9, 84, 85, 4, 86, 87, 88, 27, 89, 90, 91, 92, 93, 94, 95, 96, 97, 98, 99, 100, 101, 102, 103, 104, 62, 63, 105, 106, 107, 108, 109, 110, 111, 112, 113, 114, 115, 116, 117, 118, 119, 120, 121, 64, 18, 19, 20, 21, 22, 24, 25, 26, 28, 29, 30, 31, 32, 33, 2, 3, 34, 35, 36, 37, 38, 39, 40, 41, 42, 1, 43, 44, 45, 46, 122, 123, 124, 125, 142, 143, 144, 145, 146, 147, 148, 149, 133, 134, 135, 136, 137, 138, 139, 140, 141, 150, 151, 152, 153, 154, 155] (by decide +kernel) (by decide +kernel)
set_option maxRecDepth 20000 in
theorem gX0_tick_X0_run : GoodIn wsX0_tick (wsV RX0 133 RX0 yX0_run wsX0_run) := goodIn_app (goodIn_of _ (by decide +kernel)) ggX0_tick_X0_run
set_option maxRecDepth 20000 in
theorem ggX0_tick_X3_passWarmth : GoodIn wsX0_tick wsX3_passWarmth := goodIn_r _ [129, 63, 130, 131, 93, 94, 95, 132, 78, 79, 59, 80, 61, 142, 143, 144, 145, 146, 147, 148, 149] (by decide +kernel) (by decide +kernel)
set_option maxRecDepth 20000 in
theorem gX0_tick_X3_passWarmth : GoodIn wsX0_tick (wsV RX0 136 RX3 yX3_passWarmth wsX3_passWarmth) := goodIn_app (goodIn_of _ (by decide +kernel)) ggX0_tick_X3_passWarmth
theorem dX0_tick_0 : decode cX0_tick 0 = .ok (.iconst 0, 1) := by decide +kernel
theorem dX0_tick_1 : decode cX0_tick 1 = .ok (.istore_n 1, 1) := by decide +kernel
theorem dX0_tick_2 : decode cX0_tick 2 = .ok (.iload_n 1, 1) := by decide +kernel
theorem dX0_tick_3 : decode cX0_tick 3 = .ok (.aload_n 0, 1) := by decide +kernel
theorem dX0_tick_4 : decode cX0_tick 4 = .ok (.getfield 45, 3) := by decide +kernel
theorem dX0_tick_7 : decode cX0_tick 7 = .ok (.if_icmp .ge 67, 3) := by decide +kernel
theorem dX0_tick_10 : decode cX0_tick 10 = .ok (.aload_n 0, 1) := by decide +kernel
theorem dX0_tick_11 : decode cX0_tick 11 = .ok (.getfield 20, 3) := by decide +kernel
theorem dX0_tick_14 : decode cX0_tick 14 = .ok (.iload_n 1, 1) := by decide +kernel
theorem dX0_tick_15 : decode cX0_tick 15 = .ok (.aaload, 1) := by decide +kernel
theorem dX0_tick_16 : decode cX0_tick 16 = .ok (.getfield 96, 3) := by decide +kernel
theorem dX0_tick_19 : decode cX0_tick 19 = .ok (.iconst 1, 1) := by decide +kernel
theorem dX0_tick_20 : decode cX0_tick 20 = .ok (.if_icmp .ne 11, 3) := by decide +kernel
theorem dX0_tick_23 : decode cX0_tick 23 = .ok (.aload_n 0, 1) := by decide +kernel
theorem dX0_tick_24 : decode cX0_tick 24 = .ok (.iload_n 1, 1) := by decide +kernel
theorem dX0_tick_25 : decode cX0_tick 25 = .ok (.invokevirtual 129, 3) := by decide +kernel
theorem dX0_tick_28 : decode cX0_tick 28 = .ok (.goto 25, 3) := by decide +kernel
theorem dX0_tick_31 : decode cX0_tick 31 = .ok (.aload_n 0, 1) := by decide +kernel
theorem dX0_tick_32 : decode cX0_tick 32 = .ok (.getfield 20, 3) := by decide +kernel
theorem dX0_tick_35 : decode cX0_tick 35 = .ok (.iload_n 1, 1) := by decide +kernel
theorem dX0_tick_36 : decode cX0_tick 36 = .ok (.aaload, 1) := by decide +kernel
theorem dX0_tick_37 : decode cX0_tick 37 = .ok (.getfield 96, 3) := by decide +kernel
theorem dX0_tick_40 : decode cX0_tick 40 = .ok (.ifCond .ne 13, 3) := by decide +kernel
theorem dX0_tick_43 : decode cX0_tick 43 = .ok (.aload_n 0, 1) := by decide +kernel
theorem dX0_tick_44 : decode cX0_tick 44 = .ok (.aload_n 0, 1) := by decide +kernel
theorem dX0_tick_45 : decode cX0_tick 45 = .ok (.getfield 20, 3) := by decide +kernel
theorem dX0_tick_48 : decode cX0_tick 48 = .ok (.iload_n 1, 1) := by decide +kernel
theorem dX0_tick_49 : decode cX0_tick 49 = .ok (.aaload, 1) := by decide +kernel
theorem dX0_tick_50 : decode cX0_tick 50 = .ok (.invokevirtual 133, 3) := by decide +kernel
theorem dX0_tick_53 : decode cX0_tick 53 = .ok (.aload_n 0, 1) := by decide +kernel
theorem dX0_tick_54 : decode cX0_tick 54 = .ok (.getfield 20, 3) := by decide +kernel
theorem dX0_tick_57 : decode cX0_tick 57 = .ok (.iload_n 1, 1) := by decide +kernel
theorem dX0_tick_58 : decode cX0_tick 58 = .ok (.aaload, 1) := by decide +kernel
theorem dX0_tick_59 : decode cX0_tick 59 = .ok (.aload_n 0, 1) := by decide +kernel
theorem dX0_tick_60 : decode cX0_tick 60 = .ok (.getfield 33, 3) := by decide +kernel
theorem dX0_tick_63 : decode cX0_tick 63 = .ok (.iconst 3, 1) := by decide +kernel
theorem dX0_tick_64 : decode cX0_tick 64 = .ok (.iaload, 1) := by decide +kernel
theorem dX0_tick_65 : decode cX0_tick 65 = .ok (.invokevirtual 136, 3) := by decide +kernel
theorem dX0_tick_68 : decode cX0_tick 68 = .ok (.iinc 1 1, 3) := by decide +kernel
theorem dX0_tick_71 : decode cX0_tick 71 = .ok (.goto (-69), 3) := by decide +kernel
theorem dX0_tick_74 : decode cX0_tick 74 = .ok (.aload_n 0, 1) := by decide +kernel
theorem dX0_tick_75 : decode cX0_tick 75 = .ok (.dup, 1) := by decide +kernel
theorem dX0_tick_76 : decode cX0_tick 76 = .ok (.getfield 49, 3) := by decide +kernel
theorem dX0_tick_79 : decode cX0_tick 79 = .ok (.iconst 1, 1) := by decide +kernel
theorem dX0_tick_80 : decode cX0_tick 80 = .ok (.iadd, 1) := by decide +kernel
theorem dX0_tick_81 : decode cX0_tick 81 = .ok (.putfield 49, 3) := by decide +kernel
theorem dX0_tick_84 : decode cX0_tick 84 = .ok (.return_, 1) := by decide +kernel
set_option maxRecDepth 20000 in
theorem ggX0_waitOrStart_X0_reasonOf : GoodIn wsX0_waitOrStart wsX0_reasonOf := goodIn_r _ [7, 8, 9, 2, 10, 11, 12, 13, 14, 15, 6, 16, 17, 18, 19, 20, 21, 22, 23, 24, 25, 26, 27, 28, 1, 29, 30, 31, 32, 33, 34, 35, 36, 37, 38, 39, 40, 41, 42, 43, 44, 45, 46, 47, 48, 49, 50, 51, 75, 76, 77, 78, 79, 80, 81, 82, 66, 67, 68, 69, 70, 71, 72, 73, 74, 83, 84, 85, 86, 87, 88] (by decide +kernel) (by decide +kernel)
set_option maxRecDepth 20000 in
theorem gX0_waitOrStart_X0_reasonOf : GoodIn wsX0_waitOrStart (wsV RX0 139 RX0 yX0_reasonOf wsX0_reasonOf) := goodIn_app (goodIn_of _ (by decide +kernel)) ggX0_waitOrStart_X0_reasonOf
set_option maxRecDepth 20000 in
theorem ggX0_waitOrStart_X3_start : GoodIn wsX0_waitOrStart wsX3_start := goodIn_r _ [56, 57, 58, 59, 60, 75, 76, 77, 78, 79, 80, 81, 82] (by decide +kernel) (by decide +kernel)
set_option maxRecDepth 20000 in
theorem gX0_waitOrStart_X3_start : GoodIn wsX0_waitOrStart (wsV RX0 142 RX3 yX3_start wsX3_start) := goodIn_app (goodIn_of _ (by decide +kernel)) ggX0_waitOrStart_X3_start
set_option maxRecDepth 20000 in
theorem ggX0_waitOrStart_X0_blockOf : GoodIn wsX0_waitOrStart wsX0_blockOf := goodIn_r _ [16, 9, 17, 18, 66, 67, 68, 69, 70, 71, 72, 73, 74, 83, 84, 85, 86, 87, 88, 75, 76, 77, 78, 79, 80, 81, 82] (by decide +kernel) (by decide +kernel)
set_option maxRecDepth 20000 in
theorem gX0_waitOrStart_X0_blockOf : GoodIn wsX0_waitOrStart (wsV RX0 111 RX0 yX0_blockOf wsX0_blockOf) := goodIn_app (goodIn_of _ (by decide +kernel)) ggX0_waitOrStart_X0_blockOf
set_option maxRecDepth 20000 in
theorem ggX0_waitOrStart_X0_logDispatch : GoodIn wsX0_waitOrStart wsX0_logDispatch := goodIn_r _ [64, 11, 47, 12, 65, 48, 49, 50, 6, 51, 66, 67, 68, 69, 70, 71, 72, 73, 74] (by decide +kernel) (by decide +kernel)
set_option maxRecDepth 20000 in
theorem gX0_waitOrStart_X0_logDispatch : GoodIn wsX0_waitOrStart (wsV RX0 145 RX0 yX0_logDispatch wsX0_logDispatch) := goodIn_app (goodIn_of _ (by decide +kernel)) ggX0_waitOrStart_X0_logDispatch
theorem dX0_waitOrStart_0 : decode cX0_waitOrStart 0 = .ok (.aload_n 0, 1) := by decide +kernel
theorem dX0_waitOrStart_1 : decode cX0_waitOrStart 1 = .ok (.getfield 20, 3) := by decide +kernel
theorem dX0_waitOrStart_4 : decode cX0_waitOrStart 4 = .ok (.iload_n 1, 1) := by decide +kernel
theorem dX0_waitOrStart_5 : decode cX0_waitOrStart 5 = .ok (.aaload, 1) := by decide +kernel
theorem dX0_waitOrStart_6 : decode cX0_waitOrStart 6 = .ok (.astore_n 2, 1) := by decide +kernel
theorem dX0_waitOrStart_7 : decode cX0_waitOrStart 7 = .ok (.aload_n 0, 1) := by decide +kernel
theorem dX0_waitOrStart_8 : decode cX0_waitOrStart 8 = .ok (.aload_n 2, 1) := by decide +kernel
theorem dX0_waitOrStart_9 : decode cX0_waitOrStart 9 = .ok (.invokevirtual 139, 3) := by decide +kernel
theorem dX0_waitOrStart_12 : decode cX0_waitOrStart 12 = .ok (.iconst 5, 1) := by decide +kernel
theorem dX0_waitOrStart_13 : decode cX0_waitOrStart 13 = .ok (.if_icmp .eq 14, 3) := by decide +kernel
theorem dX0_waitOrStart_16 : decode cX0_waitOrStart 16 = .ok (.aload_n 2, 1) := by decide +kernel
theorem dX0_waitOrStart_17 : decode cX0_waitOrStart 17 = .ok (.dup, 1) := by decide +kernel
theorem dX0_waitOrStart_18 : decode cX0_waitOrStart 18 = .ok (.getfield 122, 3) := by decide +kernel
theorem dX0_waitOrStart_21 : decode cX0_waitOrStart 21 = .ok (.iconst 1, 1) := by decide +kernel
theorem dX0_waitOrStart_22 : decode cX0_waitOrStart 22 = .ok (.iadd, 1) := by decide +kernel
theorem dX0_waitOrStart_23 : decode cX0_waitOrStart 23 = .ok (.putfield 122, 3) := by decide +kernel
theorem dX0_waitOrStart_26 : decode cX0_waitOrStart 26 = .ok (.return_, 1) := by decide +kernel
theorem dX0_waitOrStart_27 : decode cX0_waitOrStart 27 = .ok (.aload_n 2, 1) := by decide +kernel
theorem dX0_waitOrStart_28 : decode cX0_waitOrStart 28 = .ok (.invokevirtual 142, 3) := by decide +kernel
theorem dX0_waitOrStart_31 : decode cX0_waitOrStart 31 = .ok (.aload_n 0, 1) := by decide +kernel
theorem dX0_waitOrStart_32 : decode cX0_waitOrStart 32 = .ok (.aload_n 2, 1) := by decide +kernel
theorem dX0_waitOrStart_33 : decode cX0_waitOrStart 33 = .ok (.invokevirtual 111, 3) := by decide +kernel
theorem dX0_waitOrStart_36 : decode cX0_waitOrStart 36 = .ok (.ifCond .ne 8, 3) := by decide +kernel
theorem dX0_waitOrStart_39 : decode cX0_waitOrStart 39 = .ok (.aload_n 0, 1) := by decide +kernel
theorem dX0_waitOrStart_40 : decode cX0_waitOrStart 40 = .ok (.iload_n 1, 1) := by decide +kernel
theorem dX0_waitOrStart_41 : decode cX0_waitOrStart 41 = .ok (.invokevirtual 145, 3) := by decide +kernel
theorem dX0_waitOrStart_44 : decode cX0_waitOrStart 44 = .ok (.return_, 1) := by decide +kernel
set_option maxRecDepth 20000 in
theorem ggX0_logDispatch_X0_logPlace : GoodIn wsX0_logDispatch wsX0_logPlace := goodIn_r _ [9, 1, 10, 11, 12, 13, 14, 15, 16, 17, 18] (by decide +kernel) (by decide +kernel)
set_option maxRecDepth 20000 in
theorem gX0_logDispatch_X0_logPlace : GoodIn wsX0_logDispatch (wsV RX0 108 RX0 yX0_logPlace wsX0_logPlace) := goodIn_app (goodIn_of _ (by decide +kernel)) ggX0_logDispatch_X0_logPlace
theorem dX0_logDispatch_0 : decode cX0_logDispatch 0 = .ok (.aload_n 0, 1) := by decide +kernel
theorem dX0_logDispatch_1 : decode cX0_logDispatch 1 = .ok (.dup, 1) := by decide +kernel
theorem dX0_logDispatch_2 : decode cX0_logDispatch 2 = .ok (.getfield 52, 3) := by decide +kernel
theorem dX0_logDispatch_5 : decode cX0_logDispatch 5 = .ok (.iconst 1, 1) := by decide +kernel
theorem dX0_logDispatch_6 : decode cX0_logDispatch 6 = .ok (.iadd, 1) := by decide +kernel
theorem dX0_logDispatch_7 : decode cX0_logDispatch 7 = .ok (.putfield 52, 3) := by decide +kernel
theorem dX0_logDispatch_10 : decode cX0_logDispatch 10 = .ok (.aload_n 0, 1) := by decide +kernel
theorem dX0_logDispatch_11 : decode cX0_logDispatch 11 = .ok (.iconst 0, 1) := by decide +kernel
theorem dX0_logDispatch_12 : decode cX0_logDispatch 12 = .ok (.invokevirtual 108, 3) := by decide +kernel
theorem dX0_logDispatch_15 : decode cX0_logDispatch 15 = .ok (.istore_n 2, 1) := by decide +kernel
theorem dX0_logDispatch_16 : decode cX0_logDispatch 16 = .ok (.aload_n 0, 1) := by decide +kernel
theorem dX0_logDispatch_17 : decode cX0_logDispatch 17 = .ok (.getfield 39, 3) := by decide +kernel
theorem dX0_logDispatch_20 : decode cX0_logDispatch 20 = .ok (.iload_n 2, 1) := by decide +kernel
theorem dX0_logDispatch_21 : decode cX0_logDispatch 21 = .ok (.aload_n 0, 1) := by decide +kernel
theorem dX0_logDispatch_22 : decode cX0_logDispatch 22 = .ok (.getfield 49, 3) := by decide +kernel
theorem dX0_logDispatch_25 : decode cX0_logDispatch 25 = .ok (.iastore, 1) := by decide +kernel
theorem dX0_logDispatch_26 : decode cX0_logDispatch 26 = .ok (.aload_n 0, 1) := by decide +kernel
theorem dX0_logDispatch_27 : decode cX0_logDispatch 27 = .ok (.getfield 42, 3) := by decide +kernel
theorem dX0_logDispatch_30 : decode cX0_logDispatch 30 = .ok (.iload_n 2, 1) := by decide +kernel
theorem dX0_logDispatch_31 : decode cX0_logDispatch 31 = .ok (.iload_n 1, 1) := by decide +kernel
theorem dX0_logDispatch_32 : decode cX0_logDispatch 32 = .ok (.iastore, 1) := by decide +kernel
theorem dX0_logDispatch_33 : decode cX0_logDispatch 33 = .ok (.return_, 1) := by decide +kernel
set_option maxRecDepth 20000 in
theorem ggX0_run_X3_speed : GoodIn wsX0_run wsX3_speed := goodIn_r _ [10, 11, 93, 94, 95, 96, 97, 98, 99, 100] (by decide +kernel) (by decide +kernel)
set_option maxRecDepth 20000 in
theorem gX0_run_X3_speed : GoodIn wsX0_run (wsV RX0 154 RX3 yX3_speed wsX3_speed) := goodIn_app (goodIn_of _ (by decide +kernel)) ggX0_run_X3_speed
set_option maxRecDepth 20000 in
theorem ggX0_run_X0_dragOf : GoodIn wsX0_run wsX0_dragOf := goodIn_r _ [16, 17, 18, 93, 94, 95, 96, 97, 98, 99, 100, 101, 102, 103, 104, 105, 106, 107, 108, 109] (by decide +kernel) (by decide +kernel)
set_option maxRecDepth 20000 in
theorem gX0_run_X0_dragOf : GoodIn wsX0_run (wsV RX0 160 RX0 yX0_dragOf wsX0_dragOf) := goodIn_app (goodIn_of _ (by decide +kernel)) ggX0_run_X0_dragOf
set_option maxRecDepth 20000 in
theorem ggX0_run_X1_squareBehind : GoodIn wsX0_run wsX1_squareBehind := goodIn_r _ [23, 24, 25, 26, 27, 28, 29, 30, 31, 32, 22, 33, 34, 110, 111, 112, 113, 114, 115] (by decide +kernel) (by decide +kernel)
set_option maxRecDepth 20000 in
theorem gX0_run_X1_squareBehind : GoodIn wsX0_run (wsV RX0 163 RX1 yX1_squareBehind wsX1_squareBehind) := goodIn_app (goodIn_of _ (by decide +kernel)) ggX0_run_X1_squareBehind
set_option maxRecDepth 20000 in
theorem ggX0_run_X3_lie : GoodIn wsX0_run wsX3_lie := goodIn_r _ [38, 11, 39, 40, 93, 94, 95, 96, 97, 98, 99, 100] (by decide +kernel) (by decide +kernel)
set_option maxRecDepth 20000 in
theorem gX0_run_X3_lie : GoodIn wsX0_run (wsV RX0 167 RX3 yX3_lie wsX3_lie) := goodIn_app (goodIn_of _ (by decide +kernel)) ggX0_run_X3_lie
set_option maxRecDepth 20000 in
theorem ggX0_run_X1_nextCell : GoodIn wsX0_run wsX1_nextCell := goodIn_r _ [33, 34, 110, 111, 112, 113, 114, 115] (by decide +kernel) (by decide +kernel)
set_option maxRecDepth 20000 in
theorem gX0_run_X1_nextCell : GoodIn wsX0_run (wsV RX0 170 RX1 yX1_nextCell wsX1_nextCell) := goodIn_app (goodIn_of _ (by decide +kernel)) ggX0_run_X1_nextCell
set_option maxRecDepth 20000 in
theorem ggX0_run_X3_moveTo : GoodIn wsX0_run wsX3_moveTo := goodIn_r _ [45, 46, 11, 47, 93, 94, 95, 96, 97, 98, 99, 100] (by decide +kernel) (by decide +kernel)
set_option maxRecDepth 20000 in
theorem gX0_run_X3_moveTo : GoodIn wsX0_run (wsV RX0 173 RX3 yX3_moveTo wsX3_moveTo) := goodIn_app (goodIn_of _ (by decide +kernel)) ggX0_run_X3_moveTo
set_option maxRecDepth 20000 in
theorem ggX0_run_X0_comeToBrake : GoodIn wsX0_run wsX0_comeToBrake := goodIn_r _ [51, 4, 52, 2, 53, 54, 55, 56, 9, 57, 46, 11, 39, 40, 58, 59, 60, 61, 15, 62, 63, 64, 65, 66, 22, 67, 68, 69, 70, 71, 72, 73, 74, 75, 76, 77, 78, 79, 80, 81, 82, 83, 84, 85, 86, 87, 88, 93, 94, 95, 96, 97, 98, 99, 100, 101, 102, 103, 104, 105, 106, 107, 108, 109, 110, 111, 112, 113, 114, 115] (by decide +kernel) (by decide +kernel)
set_option maxRecDepth 20000 in
theorem gX0_run_X0_comeToBrake : GoodIn wsX0_run (wsV RX0 176 RX0 yX0_comeToBrake wsX0_comeToBrake) := goodIn_app (goodIn_of _ (by decide +kernel)) ggX0_run_X0_comeToBrake
set_option maxRecDepth 20000 in
theorem ggX0_run_X1_isValley : GoodIn wsX0_run wsX1_isValley := goodIn_r _ [92, 24, 110, 111, 112, 113, 114, 115] (by decide +kernel) (by decide +kernel)
set_option maxRecDepth 20000 in
theorem gX0_run_X1_isValley : GoodIn wsX0_run (wsV RX0 179 RX1 yX1_isValley wsX1_isValley) := goodIn_app (goodIn_of _ (by decide +kernel)) ggX0_run_X1_isValley
theorem dX0_run_0 : decode cX0_run 0 = .ok (.aload_n 1, 1) := by decide +kernel
theorem dX0_run_1 : decode cX0_run 1 = .ok (.dup, 1) := by decide +kernel
theorem dX0_run_2 : decode cX0_run 2 = .ok (.getfield 148, 3) := by decide +kernel
theorem dX0_run_5 : decode cX0_run 5 = .ok (.aload_n 0, 1) := by decide +kernel
theorem dX0_run_6 : decode cX0_run 6 = .ok (.getfield 12, 3) := by decide +kernel
theorem dX0_run_9 : decode cX0_run 9 = .ok (.getfield 151, 3) := by decide +kernel
theorem dX0_run_12 : decode cX0_run 12 = .ok (.aload_n 1, 1) := by decide +kernel
theorem dX0_run_13 : decode cX0_run 13 = .ok (.getfield 83, 3) := by decide +kernel
theorem dX0_run_16 : decode cX0_run 16 = .ok (.iaload, 1) := by decide +kernel
theorem dX0_run_17 : decode cX0_run 17 = .ok (.iconst 1, 1) := by decide +kernel
theorem dX0_run_18 : decode cX0_run 18 = .ok (.if_icmp .ne 7, 3) := by decide +kernel
theorem dX0_run_21 : decode cX0_run 21 = .ok (.iconst 5, 1) := by decide +kernel
theorem dX0_run_22 : decode cX0_run 22 = .ok (.goto 7, 3) := by decide +kernel
theorem dX0_run_25 : decode cX0_run 25 = .ok (.aload_n 1, 1) := by decide +kernel
theorem dX0_run_26 : decode cX0_run 26 = .ok (.invokevirtual 154, 3) := by decide +kernel
theorem dX0_run_29 : decode cX0_run 29 = .ok (.iadd, 1) := by decide +kernel
theorem dX0_run_30 : decode cX0_run 30 = .ok (.putfield 148, 3) := by decide +kernel
theorem dX0_run_33 : decode cX0_run 33 = .ok (.aload_n 1, 1) := by decide +kernel
theorem dX0_run_34 : decode cX0_run 34 = .ok (.getfield 148, 3) := by decide +kernel
theorem dX0_run_37 : decode cX0_run 37 = .ok (.bipush 100, 2) := by decide +kernel
theorem dX0_run_39 : decode cX0_run 39 = .ok (.if_icmp .ge 4, 3) := by decide +kernel
theorem dX0_run_42 : decode cX0_run 42 = .ok (.return_, 1) := by decide +kernel
theorem dX0_run_43 : decode cX0_run 43 = .ok (.aload_n 1, 1) := by decide +kernel
theorem dX0_run_44 : decode cX0_run 44 = .ok (.dup, 1) := by decide +kernel
theorem dX0_run_45 : decode cX0_run 45 = .ok (.getfield 148, 3) := by decide +kernel
theorem dX0_run_48 : decode cX0_run 48 = .ok (.bipush 100, 2) := by decide +kernel
theorem dX0_run_50 : decode cX0_run 50 = .ok (.isub, 1) := by decide +kernel
theorem dX0_run_51 : decode cX0_run 51 = .ok (.putfield 148, 3) := by decide +kernel
theorem dX0_run_54 : decode cX0_run 54 = .ok (.aload_n 0, 1) := by decide +kernel
theorem dX0_run_55 : decode cX0_run 55 = .ok (.getfield 12, 3) := by decide +kernel
theorem dX0_run_58 : decode cX0_run 58 = .ok (.aload_n 1, 1) := by decide +kernel
theorem dX0_run_59 : decode cX0_run 59 = .ok (.getfield 83, 3) := by decide +kernel
theorem dX0_run_62 : decode cX0_run 62 = .ok (.aload_n 1, 1) := by decide +kernel
theorem dX0_run_63 : decode cX0_run 63 = .ok (.getfield 157, 3) := by decide +kernel
theorem dX0_run_66 : decode cX0_run 66 = .ok (.aload_n 0, 1) := by decide +kernel
theorem dX0_run_67 : decode cX0_run 67 = .ok (.aload_n 1, 1) := by decide +kernel
theorem dX0_run_68 : decode cX0_run 68 = .ok (.invokevirtual 160, 3) := by decide +kernel
theorem dX0_run_71 : decode cX0_run 71 = .ok (.invokevirtual 163, 3) := by decide +kernel
theorem dX0_run_74 : decode cX0_run 74 = .ok (.istore_n 2, 1) := by decide +kernel
theorem dX0_run_75 : decode cX0_run 75 = .ok (.iload_n 2, 1) := by decide +kernel
theorem dX0_run_76 : decode cX0_run 76 = .ok (.ifCond .ge 8, 3) := by decide +kernel
theorem dX0_run_79 : decode cX0_run 79 = .ok (.aload_n 1, 1) := by decide +kernel
theorem dX0_run_80 : decode cX0_run 80 = .ok (.invokevirtual 167, 3) := by decide +kernel
theorem dX0_run_83 : decode cX0_run 83 = .ok (.return_, 1) := by decide +kernel
theorem dX0_run_84 : decode cX0_run 84 = .ok (.aload_n 1, 1) := by decide +kernel
theorem dX0_run_85 : decode cX0_run 85 = .ok (.aload_n 0, 1) := by decide +kernel
theorem dX0_run_86 : decode cX0_run 86 = .ok (.getfield 12, 3) := by decide +kernel
theorem dX0_run_89 : decode cX0_run 89 = .ok (.aload_n 1, 1) := by decide +kernel
theorem dX0_run_90 : decode cX0_run 90 = .ok (.getfield 83, 3) := by decide +kernel
theorem dX0_run_93 : decode cX0_run 93 = .ok (.invokevirtual 170, 3) := by decide +kernel
theorem dX0_run_96 : decode cX0_run 96 = .ok (.iload_n 2, 1) := by decide +kernel
theorem dX0_run_97 : decode cX0_run 97 = .ok (.invokevirtual 173, 3) := by decide +kernel
theorem dX0_run_100 : decode cX0_run 100 = .ok (.aload_n 0, 1) := by decide +kernel
theorem dX0_run_101 : decode cX0_run 101 = .ok (.getfield 12, 3) := by decide +kernel
theorem dX0_run_104 : decode cX0_run 104 = .ok (.getfield 151, 3) := by decide +kernel
theorem dX0_run_107 : decode cX0_run 107 = .ok (.aload_n 1, 1) := by decide +kernel
theorem dX0_run_108 : decode cX0_run 108 = .ok (.getfield 83, 3) := by decide +kernel
theorem dX0_run_111 : decode cX0_run 111 = .ok (.iaload, 1) := by decide +kernel
theorem dX0_run_112 : decode cX0_run 112 = .ok (.iconst 2, 1) := by decide +kernel
theorem dX0_run_113 : decode cX0_run 113 = .ok (.if_icmp .ne 11, 3) := by decide +kernel
theorem dX0_run_116 : decode cX0_run 116 = .ok (.aload_n 0, 1) := by decide +kernel
theorem dX0_run_117 : decode cX0_run 117 = .ok (.aload_n 1, 1) := by decide +kernel
theorem dX0_run_118 : decode cX0_run 118 = .ok (.invokevirtual 176, 3) := by decide +kernel
theorem dX0_run_121 : decode cX0_run 121 = .ok (.goto 22, 3) := by decide +kernel
theorem dX0_run_124 : decode cX0_run 124 = .ok (.aload_n 0, 1) := by decide +kernel
theorem dX0_run_125 : decode cX0_run 125 = .ok (.getfield 12, 3) := by decide +kernel
theorem dX0_run_128 : decode cX0_run 128 = .ok (.aload_n 1, 1) := by decide +kernel
theorem dX0_run_129 : decode cX0_run 129 = .ok (.getfield 83, 3) := by decide +kernel
theorem dX0_run_132 : decode cX0_run 132 = .ok (.iload_n 2, 1) := by decide +kernel
theorem dX0_run_133 : decode cX0_run 133 = .ok (.invokevirtual 179, 3) := by decide +kernel
theorem dX0_run_136 : decode cX0_run 136 = .ok (.ifCond .eq 7, 3) := by decide +kernel
theorem dX0_run_139 : decode cX0_run 139 = .ok (.aload_n 1, 1) := by decide +kernel
theorem dX0_run_140 : decode cX0_run 140 = .ok (.invokevirtual 167, 3) := by decide +kernel
theorem dX0_run_143 : decode cX0_run 143 = .ok (.return_, 1) := by decide +kernel
set_option maxRecDepth 20000 in
theorem ggX0_comeToBrake_X3_standOn : GoodIn wsX0_comeToBrake wsX3_standOn := goodIn_r _ [9, 10, 11, 12, 13, 14, 47, 48, 49, 50, 51, 52, 53, 54] (by decide +kernel) (by decide +kernel)
set_option maxRecDepth 20000 in
theorem gX0_comeToBrake_X3_standOn : GoodIn wsX0_comeToBrake (wsV RX0 183 RX3 yX3_standOn wsX3_standOn) := goodIn_app (goodIn_of _ (by decide +kernel)) ggX0_comeToBrake_X3_standOn
set_option maxRecDepth 20000 in
theorem ggX0_comeToBrake_X0_blockOf : GoodIn wsX0_comeToBrake wsX0_blockOf := goodIn_r _ [19, 3, 20, 1, 55, 56, 57, 58, 59, 60, 61, 62, 63, 64, 65, 66, 67, 68, 69, 47, 48, 49, 50, 51, 52, 53, 54] (by decide +kernel) (by decide +kernel)
set_option maxRecDepth 20000 in
theorem gX0_comeToBrake_X0_blockOf : GoodIn wsX0_comeToBrake (wsV RX0 111 RX0 yX0_blockOf wsX0_blockOf) := goodIn_app (goodIn_of _ (by decide +kernel)) ggX0_comeToBrake_X0_blockOf
set_option maxRecDepth 20000 in
theorem ggX0_comeToBrake_X1_nextBlock : GoodIn wsX0_comeToBrake wsX1_nextBlock := goodIn_r _ [25, 26, 64, 65, 66, 67, 68, 69] (by decide +kernel) (by decide +kernel)
set_option maxRecDepth 20000 in
theorem gX0_comeToBrake_X1_nextBlock : GoodIn wsX0_comeToBrake (wsV RX0 115 RX1 yX1_nextBlock wsX1_nextBlock) := goodIn_app (goodIn_of _ (by decide +kernel)) ggX0_comeToBrake_X1_nextBlock
set_option maxRecDepth 20000 in
theorem ggX0_comeToBrake_X0_isFree : GoodIn wsX0_comeToBrake wsX0_isFree := goodIn_r _ [30, 3, 31, 32, 33, 34, 35, 24, 36, 37, 26, 38, 39, 40, 18, 41, 42, 1, 43, 44, 45, 46, 20, 55, 56, 57, 58, 59, 60, 61, 62, 63, 47, 48, 49, 50, 51, 52, 53, 54, 64, 65, 66, 67, 68, 69] (by decide +kernel) (by decide +kernel)
set_option maxRecDepth 20000 in
theorem gX0_comeToBrake_X0_isFree : GoodIn wsX0_comeToBrake (wsV RX0 118 RX0 yX0_isFree wsX0_isFree) := goodIn_app (goodIn_of _ (by decide +kernel)) ggX0_comeToBrake_X0_isFree
theorem dX0_comeToBrake_0 : decode cX0_comeToBrake 0 = .ok (.aload_n 1, 1) := by decide +kernel
theorem dX0_comeToBrake_1 : decode cX0_comeToBrake 1 = .ok (.aload_n 1, 1) := by decide +kernel
theorem dX0_comeToBrake_2 : decode cX0_comeToBrake 2 = .ok (.getfield 83, 3) := by decide +kernel
theorem dX0_comeToBrake_5 : decode cX0_comeToBrake 5 = .ok (.invokevirtual 183, 3) := by decide +kernel
theorem dX0_comeToBrake_8 : decode cX0_comeToBrake 8 = .ok (.aload_n 0, 1) := by decide +kernel
theorem dX0_comeToBrake_9 : decode cX0_comeToBrake 9 = .ok (.aload_n 1, 1) := by decide +kernel
theorem dX0_comeToBrake_10 : decode cX0_comeToBrake 10 = .ok (.invokevirtual 111, 3) := by decide +kernel
theorem dX0_comeToBrake_13 : decode cX0_comeToBrake 13 = .ok (.istore_n 2, 1) := by decide +kernel
theorem dX0_comeToBrake_14 : decode cX0_comeToBrake 14 = .ok (.iload_n 2, 1) := by decide +kernel
theorem dX0_comeToBrake_15 : decode cX0_comeToBrake 15 = .ok (.ifCond .ne 13, 3) := by decide +kernel
theorem dX0_comeToBrake_18 : decode cX0_comeToBrake 18 = .ok (.aload_n 1, 1) := by decide +kernel
theorem dX0_comeToBrake_19 : decode cX0_comeToBrake 19 = .ok (.dup, 1) := by decide +kernel
theorem dX0_comeToBrake_20 : decode cX0_comeToBrake 20 = .ok (.getfield 186, 3) := by decide +kernel
theorem dX0_comeToBrake_23 : decode cX0_comeToBrake 23 = .ok (.iconst 1, 1) := by decide +kernel
theorem dX0_comeToBrake_24 : decode cX0_comeToBrake 24 = .ok (.iadd, 1) := by decide +kernel
theorem dX0_comeToBrake_25 : decode cX0_comeToBrake 25 = .ok (.putfield 186, 3) := by decide +kernel
theorem dX0_comeToBrake_28 : decode cX0_comeToBrake 28 = .ok (.aload_n 0, 1) := by decide +kernel
theorem dX0_comeToBrake_29 : decode cX0_comeToBrake 29 = .ok (.aload_n 0, 1) := by decide +kernel
theorem dX0_comeToBrake_30 : decode cX0_comeToBrake 30 = .ok (.getfield 12, 3) := by decide +kernel
theorem dX0_comeToBrake_33 : decode cX0_comeToBrake 33 = .ok (.iload_n 2, 1) := by decide +kernel
theorem dX0_comeToBrake_34 : decode cX0_comeToBrake 34 = .ok (.invokevirtual 115, 3) := by decide +kernel
theorem dX0_comeToBrake_37 : decode cX0_comeToBrake 37 = .ok (.invokevirtual 118, 3) := by decide +kernel
theorem dX0_comeToBrake_40 : decode cX0_comeToBrake 40 = .ok (.ifCond .ne 13, 3) := by decide +kernel
theorem dX0_comeToBrake_43 : decode cX0_comeToBrake 43 = .ok (.aload_n 0, 1) := by decide +kernel
theorem dX0_comeToBrake_44 : decode cX0_comeToBrake 44 = .ok (.getfield 36, 3) := by decide +kernel
theorem dX0_comeToBrake_47 : decode cX0_comeToBrake 47 = .ok (.iload_n 2, 1) := by decide +kernel
theorem dX0_comeToBrake_48 : decode cX0_comeToBrake 48 = .ok (.dup2, 1) := by decide +kernel
theorem dX0_comeToBrake_49 : decode cX0_comeToBrake 49 = .ok (.iaload, 1) := by decide +kernel
theorem dX0_comeToBrake_50 : decode cX0_comeToBrake 50 = .ok (.iconst 1, 1) := by decide +kernel
theorem dX0_comeToBrake_51 : decode cX0_comeToBrake 51 = .ok (.iadd, 1) := by decide +kernel
theorem dX0_comeToBrake_52 : decode cX0_comeToBrake 52 = .ok (.iastore, 1) := by decide +kernel
theorem dX0_comeToBrake_53 : decode cX0_comeToBrake 53 = .ok (.return_, 1) := by decide +kernel
theorem dX1_init_0 : decode cX1_init 0 = .ok (.aload_n 0, 1) := by decide +kernel
theorem dX1_init_1 : decode cX1_init 1 = .ok (.invokespecial 3, 3) := by decide +kernel
theorem dX1_init_4 : decode cX1_init 4 = .ok (.aload_n 0, 1) := by decide +kernel
theorem dX1_init_5 : decode cX1_init 5 = .ok (.bipush 30, 2) := by decide +kernel
theorem dX1_init_7 : decode cX1_init 7 = .ok (.newarray .int, 2) := by decide +kernel
theorem dX1_init_9 : decode cX1_init 9 = .ok (.putfield 9, 3) := by decide +kernel
theorem dX1_init_12 : decode cX1_init 12 = .ok (.aload_n 0, 1) := by decide +kernel
theorem dX1_init_13 : decode cX1_init 13 = .ok (.bipush 30, 2) := by decide +kernel
theorem dX1_init_15 : decode cX1_init 15 = .ok (.newarray .int, 2) := by decide +kernel
theorem dX1_init_17 : decode cX1_init 17 = .ok (.putfield 15, 3) := by decide +kernel
theorem dX1_init_20 : decode cX1_init 20 = .ok (.aload_n 0, 1) := by decide +kernel
theorem dX1_init_21 : decode cX1_init 21 = .ok (.bipush 30, 2) := by decide +kernel
theorem dX1_init_23 : decode cX1_init 23 = .ok (.newarray .int, 2) := by decide +kernel
theorem dX1_init_25 : decode cX1_init 25 = .ok (.putfield 18, 3) := by decide +kernel
theorem dX1_init_28 : decode cX1_init 28 = .ok (.aload_n 0, 1) := by decide +kernel
theorem dX1_init_29 : decode cX1_init 29 = .ok (.bipush 8, 2) := by decide +kernel
theorem dX1_init_31 : decode cX1_init 31 = .ok (.newarray .int, 2) := by decide +kernel
theorem dX1_init_33 : decode cX1_init 33 = .ok (.putfield 21, 3) := by decide +kernel
theorem dX1_init_36 : decode cX1_init 36 = .ok (.aload_n 0, 1) := by decide +kernel
theorem dX1_init_37 : decode cX1_init 37 = .ok (.iconst 0, 1) := by decide +kernel
theorem dX1_init_38 : decode cX1_init 38 = .ok (.putfield 24, 3) := by decide +kernel
theorem dX1_init_41 : decode cX1_init 41 = .ok (.aload_n 0, 1) := by decide +kernel
theorem dX1_init_42 : decode cX1_init 42 = .ok (.iconst 0, 1) := by decide +kernel
theorem dX1_init_43 : decode cX1_init 43 = .ok (.putfield 28, 3) := by decide +kernel
theorem dX1_init_46 : decode cX1_init 46 = .ok (.return_, 1) := by decide +kernel
theorem dX1_copyFrom_0 : decode cX1_copyFrom 0 = .ok (.aload_n 1, 1) := by decide +kernel
theorem dX1_copyFrom_1 : decode cX1_copyFrom 1 = .ok (.getfield 9, 3) := by decide +kernel
theorem dX1_copyFrom_4 : decode cX1_copyFrom 4 = .ok (.iconst 0, 1) := by decide +kernel
theorem dX1_copyFrom_5 : decode cX1_copyFrom 5 = .ok (.aload_n 0, 1) := by decide +kernel
theorem dX1_copyFrom_6 : decode cX1_copyFrom 6 = .ok (.getfield 9, 3) := by decide +kernel
theorem dX1_copyFrom_9 : decode cX1_copyFrom 9 = .ok (.iconst 0, 1) := by decide +kernel
theorem dX1_copyFrom_10 : decode cX1_copyFrom 10 = .ok (.bipush 30, 2) := by decide +kernel
theorem dX1_copyFrom_12 : decode cX1_copyFrom 12 = .ok (.invokestatic 31, 3) := by decide +kernel
theorem dX1_copyFrom_15 : decode cX1_copyFrom 15 = .ok (.aload_n 1, 1) := by decide +kernel
theorem dX1_copyFrom_16 : decode cX1_copyFrom 16 = .ok (.getfield 15, 3) := by decide +kernel
theorem dX1_copyFrom_19 : decode cX1_copyFrom 19 = .ok (.iconst 0, 1) := by decide +kernel
theorem dX1_copyFrom_20 : decode cX1_copyFrom 20 = .ok (.aload_n 0, 1) := by decide +kernel
theorem dX1_copyFrom_21 : decode cX1_copyFrom 21 = .ok (.getfield 15, 3) := by decide +kernel
theorem dX1_copyFrom_24 : decode cX1_copyFrom 24 = .ok (.iconst 0, 1) := by decide +kernel
theorem dX1_copyFrom_25 : decode cX1_copyFrom 25 = .ok (.bipush 30, 2) := by decide +kernel
theorem dX1_copyFrom_27 : decode cX1_copyFrom 27 = .ok (.invokestatic 31, 3) := by decide +kernel
theorem dX1_copyFrom_30 : decode cX1_copyFrom 30 = .ok (.aload_n 1, 1) := by decide +kernel
theorem dX1_copyFrom_31 : decode cX1_copyFrom 31 = .ok (.getfield 18, 3) := by decide +kernel
theorem dX1_copyFrom_34 : decode cX1_copyFrom 34 = .ok (.iconst 0, 1) := by decide +kernel
theorem dX1_copyFrom_35 : decode cX1_copyFrom 35 = .ok (.aload_n 0, 1) := by decide +kernel
theorem dX1_copyFrom_36 : decode cX1_copyFrom 36 = .ok (.getfield 18, 3) := by decide +kernel
theorem dX1_copyFrom_39 : decode cX1_copyFrom 39 = .ok (.iconst 0, 1) := by decide +kernel
theorem dX1_copyFrom_40 : decode cX1_copyFrom 40 = .ok (.bipush 30, 2) := by decide +kernel
theorem dX1_copyFrom_42 : decode cX1_copyFrom 42 = .ok (.invokestatic 31, 3) := by decide +kernel
theorem dX1_copyFrom_45 : decode cX1_copyFrom 45 = .ok (.aload_n 1, 1) := by decide +kernel
theorem dX1_copyFrom_46 : decode cX1_copyFrom 46 = .ok (.getfield 21, 3) := by decide +kernel
theorem dX1_copyFrom_49 : decode cX1_copyFrom 49 = .ok (.iconst 0, 1) := by decide +kernel
theorem dX1_copyFrom_50 : decode cX1_copyFrom 50 = .ok (.aload_n 0, 1) := by decide +kernel
theorem dX1_copyFrom_51 : decode cX1_copyFrom 51 = .ok (.getfield 21, 3) := by decide +kernel
theorem dX1_copyFrom_54 : decode cX1_copyFrom 54 = .ok (.iconst 0, 1) := by decide +kernel
theorem dX1_copyFrom_55 : decode cX1_copyFrom 55 = .ok (.bipush 8, 2) := by decide +kernel
theorem dX1_copyFrom_57 : decode cX1_copyFrom 57 = .ok (.invokestatic 31, 3) := by decide +kernel
theorem dX1_copyFrom_60 : decode cX1_copyFrom 60 = .ok (.aload_n 0, 1) := by decide +kernel
theorem dX1_copyFrom_61 : decode cX1_copyFrom 61 = .ok (.aload_n 1, 1) := by decide +kernel
theorem dX1_copyFrom_62 : decode cX1_copyFrom 62 = .ok (.getfield 24, 3) := by decide +kernel
theorem dX1_copyFrom_65 : decode cX1_copyFrom 65 = .ok (.putfield 24, 3) := by decide +kernel
theorem dX1_copyFrom_68 : decode cX1_copyFrom 68 = .ok (.aload_n 0, 1) := by decide +kernel
theorem dX1_copyFrom_69 : decode cX1_copyFrom 69 = .ok (.aload_n 1, 1) := by decide +kernel
theorem dX1_copyFrom_70 : decode cX1_copyFrom 70 = .ok (.getfield 28, 3) := by decide +kernel
theorem dX1_copyFrom_73 : decode cX1_copyFrom 73 = .ok (.putfield 28, 3) := by decide +kernel
theorem dX1_copyFrom_76 : decode cX1_copyFrom 76 = .ok (.return_, 1) := by decide +kernel
set_option maxRecDepth 20000 in
theorem ggX1_read_X1_kindOf : GoodIn wsX1_read wsX1_kindOf := goodIn_r _ [12] (by decide +kernel) (by decide +kernel)
set_option maxRecDepth 20000 in
theorem gX1_read_X1_kindOf : GoodIn wsX1_read (va_wsS RX1 45 yX1_kindOf wsX1_kindOf) := goodIn_app (goodIn_of _ (by decide +kernel)) ggX1_read_X1_kindOf
set_option maxRecDepth 20000 in
theorem ggX1_read_X1_closeRing : GoodIn wsX1_read wsX1_closeRing := goodIn_r _ [16, 2, 7, 3, 19, 20, 21, 22, 23, 24] (by decide +kernel) (by decide +kernel)
set_option maxRecDepth 20000 in
theorem gX1_read_X1_closeRing : GoodIn wsX1_read (wsV RX1 49 RX1 yX1_closeRing wsX1_closeRing) := goodIn_app (goodIn_of _ (by decide +kernel)) ggX1_read_X1_closeRing
theorem dX1_read_0 : decode cX1_read 0 = .ok (.aload_n 0, 1) := by decide +kernel
theorem dX1_read_1 : decode cX1_read 1 = .ok (.aload_n 1, 1) := by decide +kernel
theorem dX1_read_2 : decode cX1_read 2 = .ok (.getfield 37, 3) := by decide +kernel
theorem dX1_read_5 : decode cX1_read 5 = .ok (.iconst 2, 1) := by decide +kernel
theorem dX1_read_6 : decode cX1_read 6 = .ok (.idiv, 1) := by decide +kernel
theorem dX1_read_7 : decode cX1_read 7 = .ok (.putfield 24, 3) := by decide +kernel
theorem dX1_read_10 : decode cX1_read 10 = .ok (.aload_n 0, 1) := by decide +kernel
theorem dX1_read_11 : decode cX1_read 11 = .ok (.iconst 0, 1) := by decide +kernel
theorem dX1_read_12 : decode cX1_read 12 = .ok (.putfield 28, 3) := by decide +kernel
theorem dX1_read_15 : decode cX1_read 15 = .ok (.iconst 0, 1) := by decide +kernel
theorem dX1_read_16 : decode cX1_read 16 = .ok (.istore_n 2, 1) := by decide +kernel
theorem dX1_read_17 : decode cX1_read 17 = .ok (.iload_n 2, 1) := by decide +kernel
theorem dX1_read_18 : decode cX1_read 18 = .ok (.aload_n 0, 1) := by decide +kernel
theorem dX1_read_19 : decode cX1_read 19 = .ok (.getfield 24, 3) := by decide +kernel
theorem dX1_read_22 : decode cX1_read 22 = .ok (.if_icmp .ge 85, 3) := by decide +kernel
theorem dX1_read_25 : decode cX1_read 25 = .ok (.aload_n 0, 1) := by decide +kernel
theorem dX1_read_26 : decode cX1_read 26 = .ok (.getfield 9, 3) := by decide +kernel
theorem dX1_read_29 : decode cX1_read 29 = .ok (.iload_n 2, 1) := by decide +kernel
theorem dX1_read_30 : decode cX1_read 30 = .ok (.aload_n 1, 1) := by decide +kernel
theorem dX1_read_31 : decode cX1_read 31 = .ok (.getfield 42, 3) := by decide +kernel
theorem dX1_read_34 : decode cX1_read 34 = .ok (.iconst 2, 1) := by decide +kernel
theorem dX1_read_35 : decode cX1_read 35 = .ok (.iload_n 2, 1) := by decide +kernel
theorem dX1_read_36 : decode cX1_read 36 = .ok (.imul, 1) := by decide +kernel
theorem dX1_read_37 : decode cX1_read 37 = .ok (.iaload, 1) := by decide +kernel
theorem dX1_read_38 : decode cX1_read 38 = .ok (.bipush 48, 2) := by decide +kernel
theorem dX1_read_40 : decode cX1_read 40 = .ok (.isub, 1) := by decide +kernel
theorem dX1_read_41 : decode cX1_read 41 = .ok (.iastore, 1) := by decide +kernel
theorem dX1_read_42 : decode cX1_read 42 = .ok (.aload_n 0, 1) := by decide +kernel
theorem dX1_read_43 : decode cX1_read 43 = .ok (.getfield 15, 3) := by decide +kernel
theorem dX1_read_46 : decode cX1_read 46 = .ok (.iload_n 2, 1) := by decide +kernel
theorem dX1_read_47 : decode cX1_read 47 = .ok (.aload_n 1, 1) := by decide +kernel
theorem dX1_read_48 : decode cX1_read 48 = .ok (.getfield 42, 3) := by decide +kernel
theorem dX1_read_51 : decode cX1_read 51 = .ok (.iconst 2, 1) := by decide +kernel
theorem dX1_read_52 : decode cX1_read 52 = .ok (.iload_n 2, 1) := by decide +kernel
theorem dX1_read_53 : decode cX1_read 53 = .ok (.imul, 1) := by decide +kernel
theorem dX1_read_54 : decode cX1_read 54 = .ok (.iconst 1, 1) := by decide +kernel
theorem dX1_read_55 : decode cX1_read 55 = .ok (.iadd, 1) := by decide +kernel
theorem dX1_read_56 : decode cX1_read 56 = .ok (.iaload, 1) := by decide +kernel
theorem dX1_read_57 : decode cX1_read 57 = .ok (.invokestatic 45, 3) := by decide +kernel
theorem dX1_read_60 : decode cX1_read 60 = .ok (.iastore, 1) := by decide +kernel
theorem dX1_read_61 : decode cX1_read 61 = .ok (.aload_n 0, 1) := by decide +kernel
theorem dX1_read_62 : decode cX1_read 62 = .ok (.getfield 18, 3) := by decide +kernel
theorem dX1_read_65 : decode cX1_read 65 = .ok (.iload_n 2, 1) := by decide +kernel
theorem dX1_read_66 : decode cX1_read 66 = .ok (.aload_n 0, 1) := by decide +kernel
theorem dX1_read_67 : decode cX1_read 67 = .ok (.getfield 28, 3) := by decide +kernel
theorem dX1_read_70 : decode cX1_read 70 = .ok (.iastore, 1) := by decide +kernel
theorem dX1_read_71 : decode cX1_read 71 = .ok (.aload_n 0, 1) := by decide +kernel
theorem dX1_read_72 : decode cX1_read 72 = .ok (.getfield 15, 3) := by decide +kernel
theorem dX1_read_75 : decode cX1_read 75 = .ok (.iload_n 2, 1) := by decide +kernel
theorem dX1_read_76 : decode cX1_read 76 = .ok (.iaload, 1) := by decide +kernel
theorem dX1_read_77 : decode cX1_read 77 = .ok (.iconst 2, 1) := by decide +kernel
theorem dX1_read_78 : decode cX1_read 78 = .ok (.if_icmp .ne 23, 3) := by decide +kernel
theorem dX1_read_81 : decode cX1_read 81 = .ok (.aload_n 0, 1) := by decide +kernel
theorem dX1_read_82 : decode cX1_read 82 = .ok (.getfield 21, 3) := by decide +kernel
theorem dX1_read_85 : decode cX1_read 85 = .ok (.aload_n 0, 1) := by decide +kernel
theorem dX1_read_86 : decode cX1_read 86 = .ok (.getfield 28, 3) := by decide +kernel
theorem dX1_read_89 : decode cX1_read 89 = .ok (.iload_n 2, 1) := by decide +kernel
theorem dX1_read_90 : decode cX1_read 90 = .ok (.iastore, 1) := by decide +kernel
theorem dX1_read_91 : decode cX1_read 91 = .ok (.aload_n 0, 1) := by decide +kernel
theorem dX1_read_92 : decode cX1_read 92 = .ok (.dup, 1) := by decide +kernel
theorem dX1_read_93 : decode cX1_read 93 = .ok (.getfield 28, 3) := by decide +kernel
theorem dX1_read_96 : decode cX1_read 96 = .ok (.iconst 1, 1) := by decide +kernel
theorem dX1_read_97 : decode cX1_read 97 = .ok (.iadd, 1) := by decide +kernel
theorem dX1_read_98 : decode cX1_read 98 = .ok (.putfield 28, 3) := by decide +kernel
theorem dX1_read_101 : decode cX1_read 101 = .ok (.iinc 2 1, 3) := by decide +kernel
theorem dX1_read_104 : decode cX1_read 104 = .ok (.goto (-87), 3) := by decide +kernel
theorem dX1_read_107 : decode cX1_read 107 = .ok (.aload_n 0, 1) := by decide +kernel
theorem dX1_read_108 : decode cX1_read 108 = .ok (.invokevirtual 49, 3) := by decide +kernel
theorem dX1_read_111 : decode cX1_read 111 = .ok (.return_, 1) := by decide +kernel
theorem dX1_kindOf_0 : decode cX1_kindOf 0 = .ok (.iload_n 0, 1) := by decide +kernel
theorem dX1_kindOf_1 : decode cX1_kindOf 1 = .ok (.bipush 98, 2) := by decide +kernel
theorem dX1_kindOf_3 : decode cX1_kindOf 3 = .ok (.if_icmp .ne 5, 3) := by decide +kernel
theorem dX1_kindOf_6 : decode cX1_kindOf 6 = .ok (.iconst 2, 1) := by decide +kernel
theorem dX1_kindOf_7 : decode cX1_kindOf 7 = .ok (.ireturn, 1) := by decide +kernel
theorem dX1_kindOf_8 : decode cX1_kindOf 8 = .ok (.iload_n 0, 1) := by decide +kernel
theorem dX1_kindOf_9 : decode cX1_kindOf 9 = .ok (.bipush 108, 2) := by decide +kernel
theorem dX1_kindOf_11 : decode cX1_kindOf 11 = .ok (.if_icmp .ne 7, 3) := by decide +kernel
theorem dX1_kindOf_14 : decode cX1_kindOf 14 = .ok (.iconst 1, 1) := by decide +kernel
theorem dX1_kindOf_15 : decode cX1_kindOf 15 = .ok (.goto 4, 3) := by decide +kernel
theorem dX1_kindOf_18 : decode cX1_kindOf 18 = .ok (.iconst 0, 1) := by decide +kernel
theorem dX1_kindOf_19 : decode cX1_kindOf 19 = .ok (.ireturn, 1) := by decide +kernel
theorem dX1_closeRing_0 : decode cX1_closeRing 0 = .ok (.iconst 0, 1) := by decide +kernel
theorem dX1_closeRing_1 : decode cX1_closeRing 1 = .ok (.istore_n 1, 1) := by decide +kernel
theorem dX1_closeRing_2 : decode cX1_closeRing 2 = .ok (.iload_n 1, 1) := by decide +kernel
theorem dX1_closeRing_3 : decode cX1_closeRing 3 = .ok (.aload_n 0, 1) := by decide +kernel
theorem dX1_closeRing_4 : decode cX1_closeRing 4 = .ok (.getfield 24, 3) := by decide +kernel
theorem dX1_closeRing_7 : decode cX1_closeRing 7 = .ok (.if_icmp .ge 29, 3) := by decide +kernel
theorem dX1_closeRing_10 : decode cX1_closeRing 10 = .ok (.aload_n 0, 1) := by decide +kernel
theorem dX1_closeRing_11 : decode cX1_closeRing 11 = .ok (.getfield 18, 3) := by decide +kernel
theorem dX1_closeRing_14 : decode cX1_closeRing 14 = .ok (.iload_n 1, 1) := by decide +kernel
theorem dX1_closeRing_15 : decode cX1_closeRing 15 = .ok (.iaload, 1) := by decide +kernel
theorem dX1_closeRing_16 : decode cX1_closeRing 16 = .ok (.aload_n 0, 1) := by decide +kernel
theorem dX1_closeRing_17 : decode cX1_closeRing 17 = .ok (.getfield 28, 3) := by decide +kernel
theorem dX1_closeRing_20 : decode cX1_closeRing 20 = .ok (.if_icmp .ne 10, 3) := by decide +kernel
theorem dX1_closeRing_23 : decode cX1_closeRing 23 = .ok (.aload_n 0, 1) := by decide +kernel
theorem dX1_closeRing_24 : decode cX1_closeRing 24 = .ok (.getfield 18, 3) := by decide +kernel
theorem dX1_closeRing_27 : decode cX1_closeRing 27 = .ok (.iload_n 1, 1) := by decide +kernel
theorem dX1_closeRing_28 : decode cX1_closeRing 28 = .ok (.iconst 0, 1) := by decide +kernel
theorem dX1_closeRing_29 : decode cX1_closeRing 29 = .ok (.iastore, 1) := by decide +kernel
theorem dX1_closeRing_30 : decode cX1_closeRing 30 = .ok (.iinc 1 1, 3) := by decide +kernel
theorem dX1_closeRing_33 : decode cX1_closeRing 33 = .ok (.goto (-31), 3) := by decide +kernel
theorem dX1_closeRing_36 : decode cX1_closeRing 36 = .ok (.return_, 1) := by decide +kernel
theorem dX1_nextCell_0 : decode cX1_nextCell 0 = .ok (.iload_n 1, 1) := by decide +kernel
theorem dX1_nextCell_1 : decode cX1_nextCell 1 = .ok (.iconst 1, 1) := by decide +kernel
theorem dX1_nextCell_2 : decode cX1_nextCell 2 = .ok (.iadd, 1) := by decide +kernel
theorem dX1_nextCell_3 : decode cX1_nextCell 3 = .ok (.aload_n 0, 1) := by decide +kernel
theorem dX1_nextCell_4 : decode cX1_nextCell 4 = .ok (.getfield 24, 3) := by decide +kernel
theorem dX1_nextCell_7 : decode cX1_nextCell 7 = .ok (.if_icmp .ge 9, 3) := by decide +kernel
theorem dX1_nextCell_10 : decode cX1_nextCell 10 = .ok (.iload_n 1, 1) := by decide +kernel
theorem dX1_nextCell_11 : decode cX1_nextCell 11 = .ok (.iconst 1, 1) := by decide +kernel
theorem dX1_nextCell_12 : decode cX1_nextCell 12 = .ok (.iadd, 1) := by decide +kernel
theorem dX1_nextCell_13 : decode cX1_nextCell 13 = .ok (.goto 4, 3) := by decide +kernel
theorem dX1_nextCell_16 : decode cX1_nextCell 16 = .ok (.iconst 0, 1) := by decide +kernel
theorem dX1_nextCell_17 : decode cX1_nextCell 17 = .ok (.ireturn, 1) := by decide +kernel
theorem dX1_nextBlock_0 : decode cX1_nextBlock 0 = .ok (.iload_n 1, 1) := by decide +kernel
theorem dX1_nextBlock_1 : decode cX1_nextBlock 1 = .ok (.iconst 1, 1) := by decide +kernel
theorem dX1_nextBlock_2 : decode cX1_nextBlock 2 = .ok (.iadd, 1) := by decide +kernel
theorem dX1_nextBlock_3 : decode cX1_nextBlock 3 = .ok (.aload_n 0, 1) := by decide +kernel
theorem dX1_nextBlock_4 : decode cX1_nextBlock 4 = .ok (.getfield 28, 3) := by decide +kernel
theorem dX1_nextBlock_7 : decode cX1_nextBlock 7 = .ok (.if_icmp .ge 9, 3) := by decide +kernel
theorem dX1_nextBlock_10 : decode cX1_nextBlock 10 = .ok (.iload_n 1, 1) := by decide +kernel
theorem dX1_nextBlock_11 : decode cX1_nextBlock 11 = .ok (.iconst 1, 1) := by decide +kernel
theorem dX1_nextBlock_12 : decode cX1_nextBlock 12 = .ok (.iadd, 1) := by decide +kernel
theorem dX1_nextBlock_13 : decode cX1_nextBlock 13 = .ok (.goto 4, 3) := by decide +kernel
theorem dX1_nextBlock_16 : decode cX1_nextBlock 16 = .ok (.iconst 0, 1) := by decide +kernel
theorem dX1_nextBlock_17 : decode cX1_nextBlock 17 = .ok (.ireturn, 1) := by decide +kernel
theorem dX1_brakeBefore_0 : decode cX1_brakeBefore 0 = .ok (.aload_n 0, 1) := by decide +kernel
theorem dX1_brakeBefore_1 : decode cX1_brakeBefore 1 = .ok (.getfield 21, 3) := by decide +kernel
theorem dX1_brakeBefore_4 : decode cX1_brakeBefore 4 = .ok (.iload_n 1, 1) := by decide +kernel
theorem dX1_brakeBefore_5 : decode cX1_brakeBefore 5 = .ok (.ifCond .le 9, 3) := by decide +kernel
theorem dX1_brakeBefore_8 : decode cX1_brakeBefore 8 = .ok (.iload_n 1, 1) := by decide +kernel
theorem dX1_brakeBefore_9 : decode cX1_brakeBefore 9 = .ok (.iconst 1, 1) := by decide +kernel
theorem dX1_brakeBefore_10 : decode cX1_brakeBefore 10 = .ok (.isub, 1) := by decide +kernel
theorem dX1_brakeBefore_11 : decode cX1_brakeBefore 11 = .ok (.goto 9, 3) := by decide +kernel
theorem dX1_brakeBefore_14 : decode cX1_brakeBefore 14 = .ok (.aload_n 0, 1) := by decide +kernel
theorem dX1_brakeBefore_15 : decode cX1_brakeBefore 15 = .ok (.getfield 28, 3) := by decide +kernel
theorem dX1_brakeBefore_18 : decode cX1_brakeBefore 18 = .ok (.iconst 1, 1) := by decide +kernel
theorem dX1_brakeBefore_19 : decode cX1_brakeBefore 19 = .ok (.isub, 1) := by decide +kernel
theorem dX1_brakeBefore_20 : decode cX1_brakeBefore 20 = .ok (.iaload, 1) := by decide +kernel
theorem dX1_brakeBefore_21 : decode cX1_brakeBefore 21 = .ok (.ireturn, 1) := by decide +kernel
set_option maxRecDepth 20000 in
theorem ggX1_firstCell_X1_brakeBefore : GoodIn wsX1_firstCell wsX1_brakeBefore := goodIn_r _ [5, 6, 7, 13, 14, 15, 16, 17, 18] (by decide +kernel) (by decide +kernel)
set_option maxRecDepth 20000 in
theorem gX1_firstCell_X1_brakeBefore : GoodIn wsX1_firstCell (wsV RX1 52 RX1 yX1_brakeBefore wsX1_brakeBefore) := goodIn_app (goodIn_of _ (by decide +kernel)) ggX1_firstCell_X1_brakeBefore
set_option maxRecDepth 20000 in
theorem ggX1_firstCell_X1_nextCell : GoodIn wsX1_firstCell wsX1_nextCell := goodIn_r _ [11, 12, 13, 14, 15, 16, 17, 18] (by decide +kernel) (by decide +kernel)
set_option maxRecDepth 20000 in
theorem gX1_firstCell_X1_nextCell : GoodIn wsX1_firstCell (wsV RX1 55 RX1 yX1_nextCell wsX1_nextCell) := goodIn_app (goodIn_of _ (by decide +kernel)) ggX1_firstCell_X1_nextCell
theorem dX1_firstCell_0 : decode cX1_firstCell 0 = .ok (.aload_n 0, 1) := by decide +kernel
theorem dX1_firstCell_1 : decode cX1_firstCell 1 = .ok (.aload_n 0, 1) := by decide +kernel
theorem dX1_firstCell_2 : decode cX1_firstCell 2 = .ok (.iload_n 1, 1) := by decide +kernel
theorem dX1_firstCell_3 : decode cX1_firstCell 3 = .ok (.invokevirtual 52, 3) := by decide +kernel
theorem dX1_firstCell_6 : decode cX1_firstCell 6 = .ok (.invokevirtual 55, 3) := by decide +kernel
theorem dX1_firstCell_9 : decode cX1_firstCell 9 = .ok (.ireturn, 1) := by decide +kernel
set_option maxRecDepth 20000 in
theorem ggX1_blockLength_X1_brakeBefore : GoodIn wsX1_blockLength wsX1_brakeBefore := goodIn_r _ [7, 1, 8, 9, 10, 11, 12, 13, 14] (by decide +kernel) (by decide +kernel)
set_option maxRecDepth 20000 in
theorem gX1_blockLength_X1_brakeBefore : GoodIn wsX1_blockLength (wsV RX1 52 RX1 yX1_brakeBefore wsX1_brakeBefore) := goodIn_app (goodIn_of _ (by decide +kernel)) ggX1_blockLength_X1_brakeBefore
theorem dX1_blockLength_0 : decode cX1_blockLength 0 = .ok (.aload_n 0, 1) := by decide +kernel
theorem dX1_blockLength_1 : decode cX1_blockLength 1 = .ok (.getfield 21, 3) := by decide +kernel
theorem dX1_blockLength_4 : decode cX1_blockLength 4 = .ok (.iload_n 1, 1) := by decide +kernel
theorem dX1_blockLength_5 : decode cX1_blockLength 5 = .ok (.iaload, 1) := by decide +kernel
theorem dX1_blockLength_6 : decode cX1_blockLength 6 = .ok (.aload_n 0, 1) := by decide +kernel
theorem dX1_blockLength_7 : decode cX1_blockLength 7 = .ok (.iload_n 1, 1) := by decide +kernel
theorem dX1_blockLength_8 : decode cX1_blockLength 8 = .ok (.invokevirtual 52, 3) := by decide +kernel
theorem dX1_blockLength_11 : decode cX1_blockLength 11 = .ok (.isub, 1) := by decide +kernel
theorem dX1_blockLength_12 : decode cX1_blockLength 12 = .ok (.istore_n 2, 1) := by decide +kernel
theorem dX1_blockLength_13 : decode cX1_blockLength 13 = .ok (.iload_n 2, 1) := by decide +kernel
theorem dX1_blockLength_14 : decode cX1_blockLength 14 = .ok (.ifCond .le 7, 3) := by decide +kernel
theorem dX1_blockLength_17 : decode cX1_blockLength 17 = .ok (.iload_n 2, 1) := by decide +kernel
theorem dX1_blockLength_18 : decode cX1_blockLength 18 = .ok (.goto 9, 3) := by decide +kernel
theorem dX1_blockLength_21 : decode cX1_blockLength 21 = .ok (.iload_n 2, 1) := by decide +kernel
theorem dX1_blockLength_22 : decode cX1_blockLength 22 = .ok (.aload_n 0, 1) := by decide +kernel
theorem dX1_blockLength_23 : decode cX1_blockLength 23 = .ok (.getfield 24, 3) := by decide +kernel
theorem dX1_blockLength_26 : decode cX1_blockLength 26 = .ok (.iadd, 1) := by decide +kernel
theorem dX1_blockLength_27 : decode cX1_blockLength 27 = .ok (.ireturn, 1) := by decide +kernel
theorem dX1_greatestHeight_0 : decode cX1_greatestHeight 0 = .ok (.iconst 0, 1) := by decide +kernel
theorem dX1_greatestHeight_1 : decode cX1_greatestHeight 1 = .ok (.istore_n 1, 1) := by decide +kernel
theorem dX1_greatestHeight_2 : decode cX1_greatestHeight 2 = .ok (.iconst 0, 1) := by decide +kernel
theorem dX1_greatestHeight_3 : decode cX1_greatestHeight 3 = .ok (.istore_n 2, 1) := by decide +kernel
theorem dX1_greatestHeight_4 : decode cX1_greatestHeight 4 = .ok (.iload_n 2, 1) := by decide +kernel
theorem dX1_greatestHeight_5 : decode cX1_greatestHeight 5 = .ok (.aload_n 0, 1) := by decide +kernel
theorem dX1_greatestHeight_6 : decode cX1_greatestHeight 6 = .ok (.getfield 24, 3) := by decide +kernel
theorem dX1_greatestHeight_9 : decode cX1_greatestHeight 9 = .ok (.if_icmp .ge 20, 3) := by decide +kernel
theorem dX1_greatestHeight_12 : decode cX1_greatestHeight 12 = .ok (.iload_n 1, 1) := by decide +kernel
theorem dX1_greatestHeight_13 : decode cX1_greatestHeight 13 = .ok (.aload_n 0, 1) := by decide +kernel
theorem dX1_greatestHeight_14 : decode cX1_greatestHeight 14 = .ok (.getfield 9, 3) := by decide +kernel
theorem dX1_greatestHeight_17 : decode cX1_greatestHeight 17 = .ok (.iload_n 2, 1) := by decide +kernel
theorem dX1_greatestHeight_18 : decode cX1_greatestHeight 18 = .ok (.iaload, 1) := by decide +kernel
theorem dX1_greatestHeight_19 : decode cX1_greatestHeight 19 = .ok (.invokestatic 58, 3) := by decide +kernel
theorem dX1_greatestHeight_22 : decode cX1_greatestHeight 22 = .ok (.istore_n 1, 1) := by decide +kernel
theorem dX1_greatestHeight_23 : decode cX1_greatestHeight 23 = .ok (.iinc 2 1, 3) := by decide +kernel
theorem dX1_greatestHeight_26 : decode cX1_greatestHeight 26 = .ok (.goto (-22), 3) := by decide +kernel
theorem dX1_greatestHeight_29 : decode cX1_greatestHeight 29 = .ok (.iload_n 1, 1) := by decide +kernel
theorem dX1_greatestHeight_30 : decode cX1_greatestHeight 30 = .ok (.ireturn, 1) := by decide +kernel
set_option maxRecDepth 20000 in
theorem ggX1_squareBehind_X1_nextCell : GoodIn wsX1_squareBehind wsX1_nextCell := goodIn_r _ [11, 12, 13, 14, 15, 16, 17, 18] (by decide +kernel) (by decide +kernel)
set_option maxRecDepth 20000 in
theorem gX1_squareBehind_X1_nextCell : GoodIn wsX1_squareBehind (wsV RX1 55 RX1 yX1_nextCell wsX1_nextCell) := goodIn_app (goodIn_of _ (by decide +kernel)) ggX1_squareBehind_X1_nextCell
theorem dX1_squareBehind_0 : decode cX1_squareBehind 0 = .ok (.aload_n 0, 1) := by decide +kernel
theorem dX1_squareBehind_1 : decode cX1_squareBehind 1 = .ok (.iload_n 1, 1) := by decide +kernel
theorem dX1_squareBehind_2 : decode cX1_squareBehind 2 = .ok (.invokevirtual 55, 3) := by decide +kernel
theorem dX1_squareBehind_5 : decode cX1_squareBehind 5 = .ok (.istore 4, 2) := by decide +kernel
theorem dX1_squareBehind_7 : decode cX1_squareBehind 7 = .ok (.aload_n 0, 1) := by decide +kernel
theorem dX1_squareBehind_8 : decode cX1_squareBehind 8 = .ok (.getfield 15, 3) := by decide +kernel
theorem dX1_squareBehind_11 : decode cX1_squareBehind 11 = .ok (.iload 4, 2) := by decide +kernel
theorem dX1_squareBehind_13 : decode cX1_squareBehind 13 = .ok (.iaload, 1) := by decide +kernel
theorem dX1_squareBehind_14 : decode cX1_squareBehind 14 = .ok (.iconst 1, 1) := by decide +kernel
theorem dX1_squareBehind_15 : decode cX1_squareBehind 15 = .ok (.if_icmp .ne 6, 3) := by decide +kernel
theorem dX1_squareBehind_18 : decode cX1_squareBehind 18 = .ok (.bipush 25, 2) := by decide +kernel
theorem dX1_squareBehind_20 : decode cX1_squareBehind 20 = .ok (.ireturn, 1) := by decide +kernel
theorem dX1_squareBehind_21 : decode cX1_squareBehind 21 = .ok (.bipush 100, 2) := by decide +kernel
theorem dX1_squareBehind_23 : decode cX1_squareBehind 23 = .ok (.aload_n 0, 1) := by decide +kernel
theorem dX1_squareBehind_24 : decode cX1_squareBehind 24 = .ok (.getfield 9, 3) := by decide +kernel
theorem dX1_squareBehind_27 : decode cX1_squareBehind 27 = .ok (.iload_n 1, 1) := by decide +kernel
theorem dX1_squareBehind_28 : decode cX1_squareBehind 28 = .ok (.iaload, 1) := by decide +kernel
theorem dX1_squareBehind_29 : decode cX1_squareBehind 29 = .ok (.aload_n 0, 1) := by decide +kernel
theorem dX1_squareBehind_30 : decode cX1_squareBehind 30 = .ok (.getfield 9, 3) := by decide +kernel
theorem dX1_squareBehind_33 : decode cX1_squareBehind 33 = .ok (.iload 4, 2) := by decide +kernel
theorem dX1_squareBehind_35 : decode cX1_squareBehind 35 = .ok (.iaload, 1) := by decide +kernel
theorem dX1_squareBehind_36 : decode cX1_squareBehind 36 = .ok (.isub, 1) := by decide +kernel
theorem dX1_squareBehind_37 : decode cX1_squareBehind 37 = .ok (.imul, 1) := by decide +kernel
theorem dX1_squareBehind_38 : decode cX1_squareBehind 38 = .ok (.iload_n 3, 1) := by decide +kernel
theorem dX1_squareBehind_39 : decode cX1_squareBehind 39 = .ok (.isub, 1) := by decide +kernel
theorem dX1_squareBehind_40 : decode cX1_squareBehind 40 = .ok (.istore 5, 2) := by decide +kernel
theorem dX1_squareBehind_42 : decode cX1_squareBehind 42 = .ok (.iload_n 2, 1) := by decide +kernel
theorem dX1_squareBehind_43 : decode cX1_squareBehind 43 = .ok (.iload 5, 2) := by decide +kernel
theorem dX1_squareBehind_45 : decode cX1_squareBehind 45 = .ok (.iadd, 1) := by decide +kernel
theorem dX1_squareBehind_46 : decode cX1_squareBehind 46 = .ok (.sipush 9999, 3) := by decide +kernel
theorem dX1_squareBehind_49 : decode cX1_squareBehind 49 = .ok (.invokestatic 64, 3) := by decide +kernel
theorem dX1_squareBehind_52 : decode cX1_squareBehind 52 = .ok (.ireturn, 1) := by decide +kernel
theorem dX1_isValley_0 : decode cX1_isValley 0 = .ok (.iload_n 2, 1) := by decide +kernel
theorem dX1_isValley_1 : decode cX1_isValley 1 = .ok (.ifCond .ne 16, 3) := by decide +kernel
theorem dX1_isValley_4 : decode cX1_isValley 4 = .ok (.aload_n 0, 1) := by decide +kernel
theorem dX1_isValley_5 : decode cX1_isValley 5 = .ok (.getfield 15, 3) := by decide +kernel
theorem dX1_isValley_8 : decode cX1_isValley 8 = .ok (.iload_n 1, 1) := by decide +kernel
theorem dX1_isValley_9 : decode cX1_isValley 9 = .ok (.iaload, 1) := by decide +kernel
theorem dX1_isValley_10 : decode cX1_isValley 10 = .ok (.ifCond .ne 7, 3) := by decide +kernel
theorem dX1_isValley_13 : decode cX1_isValley 13 = .ok (.iconst 1, 1) := by decide +kernel
theorem dX1_isValley_14 : decode cX1_isValley 14 = .ok (.goto 4, 3) := by decide +kernel
theorem dX1_isValley_17 : decode cX1_isValley 17 = .ok (.iconst 0, 1) := by decide +kernel
theorem dX1_isValley_18 : decode cX1_isValley 18 = .ok (.ireturn, 1) := by decide +kernel
set_option maxRecDepth 20000 in
theorem ggX1_leastSquareToBrake_X1_comesToBrake : GoodIn wsX1_leastSquareToBrake wsX1_comesToBrake := goodIn_r _ [5, 6, 7, 8, 9, 10, 4, 11, 12, 13, 14, 15, 16, 17, 18, 19, 20, 21, 22, 23, 24, 25, 26, 27, 28, 29, 30] (by decide +kernel) (by decide +kernel)
set_option maxRecDepth 20000 in
theorem gX1_leastSquareToBrake_X1_comesToBrake : GoodIn wsX1_leastSquareToBrake (wsV RX1 67 RX1 yX1_comesToBrake wsX1_comesToBrake) := goodIn_app (goodIn_of _ (by decide +kernel)) ggX1_leastSquareToBrake_X1_comesToBrake
theorem dX1_leastSquareToBrake_0 : decode cX1_leastSquareToBrake 0 = .ok (.iconst 0, 1) := by decide +kernel
theorem dX1_leastSquareToBrake_1 : decode cX1_leastSquareToBrake 1 = .ok (.istore_n 3, 1) := by decide +kernel
theorem dX1_leastSquareToBrake_2 : decode cX1_leastSquareToBrake 2 = .ok (.sipush 8192, 3) := by decide +kernel
theorem dX1_leastSquareToBrake_5 : decode cX1_leastSquareToBrake 5 = .ok (.istore 4, 2) := by decide +kernel
theorem dX1_leastSquareToBrake_7 : decode cX1_leastSquareToBrake 7 = .ok (.iload 4, 2) := by decide +kernel
theorem dX1_leastSquareToBrake_9 : decode cX1_leastSquareToBrake 9 = .ok (.ifCond .le 44, 3) := by decide +kernel
theorem dX1_leastSquareToBrake_12 : decode cX1_leastSquareToBrake 12 = .ok (.iload_n 3, 1) := by decide +kernel
theorem dX1_leastSquareToBrake_13 : decode cX1_leastSquareToBrake 13 = .ok (.iload 4, 2) := by decide +kernel
theorem dX1_leastSquareToBrake_15 : decode cX1_leastSquareToBrake 15 = .ok (.iadd, 1) := by decide +kernel
theorem dX1_leastSquareToBrake_16 : decode cX1_leastSquareToBrake 16 = .ok (.istore 5, 2) := by decide +kernel
theorem dX1_leastSquareToBrake_18 : decode cX1_leastSquareToBrake 18 = .ok (.iload 5, 2) := by decide +kernel
theorem dX1_leastSquareToBrake_20 : decode cX1_leastSquareToBrake 20 = .ok (.iconst 1, 1) := by decide +kernel
theorem dX1_leastSquareToBrake_21 : decode cX1_leastSquareToBrake 21 = .ok (.isub, 1) := by decide +kernel
theorem dX1_leastSquareToBrake_22 : decode cX1_leastSquareToBrake 22 = .ok (.sipush 9999, 3) := by decide +kernel
theorem dX1_leastSquareToBrake_25 : decode cX1_leastSquareToBrake 25 = .ok (.if_icmp .gt 19, 3) := by decide +kernel
theorem dX1_leastSquareToBrake_28 : decode cX1_leastSquareToBrake 28 = .ok (.aload_n 0, 1) := by decide +kernel
theorem dX1_leastSquareToBrake_29 : decode cX1_leastSquareToBrake 29 = .ok (.iload_n 1, 1) := by decide +kernel
theorem dX1_leastSquareToBrake_30 : decode cX1_leastSquareToBrake 30 = .ok (.iload 5, 2) := by decide +kernel
theorem dX1_leastSquareToBrake_32 : decode cX1_leastSquareToBrake 32 = .ok (.iconst 1, 1) := by decide +kernel
theorem dX1_leastSquareToBrake_33 : decode cX1_leastSquareToBrake 33 = .ok (.isub, 1) := by decide +kernel
theorem dX1_leastSquareToBrake_34 : decode cX1_leastSquareToBrake 34 = .ok (.iload_n 2, 1) := by decide +kernel
theorem dX1_leastSquareToBrake_35 : decode cX1_leastSquareToBrake 35 = .ok (.invokevirtual 67, 3) := by decide +kernel
theorem dX1_leastSquareToBrake_38 : decode cX1_leastSquareToBrake 38 = .ok (.ifCond .ne 6, 3) := by decide +kernel
theorem dX1_leastSquareToBrake_41 : decode cX1_leastSquareToBrake 41 = .ok (.iload 5, 2) := by decide +kernel
theorem dX1_leastSquareToBrake_43 : decode cX1_leastSquareToBrake 43 = .ok (.istore_n 3, 1) := by decide +kernel
theorem dX1_leastSquareToBrake_44 : decode cX1_leastSquareToBrake 44 = .ok (.iload 4, 2) := by decide +kernel
theorem dX1_leastSquareToBrake_46 : decode cX1_leastSquareToBrake 46 = .ok (.iconst 2, 1) := by decide +kernel
theorem dX1_leastSquareToBrake_47 : decode cX1_leastSquareToBrake 47 = .ok (.idiv, 1) := by decide +kernel
theorem dX1_leastSquareToBrake_48 : decode cX1_leastSquareToBrake 48 = .ok (.istore 4, 2) := by decide +kernel
theorem dX1_leastSquareToBrake_50 : decode cX1_leastSquareToBrake 50 = .ok (.goto (-43), 3) := by decide +kernel
theorem dX1_leastSquareToBrake_53 : decode cX1_leastSquareToBrake 53 = .ok (.iload_n 3, 1) := by decide +kernel
theorem dX1_leastSquareToBrake_54 : decode cX1_leastSquareToBrake 54 = .ok (.sipush 9999, 3) := by decide +kernel
theorem dX1_leastSquareToBrake_57 : decode cX1_leastSquareToBrake 57 = .ok (.if_icmp .le 7, 3) := by decide +kernel
theorem dX1_leastSquareToBrake_60 : decode cX1_leastSquareToBrake 60 = .ok (.iconst (-1), 1) := by decide +kernel
theorem dX1_leastSquareToBrake_61 : decode cX1_leastSquareToBrake 61 = .ok (.goto 4, 3) := by decide +kernel
theorem dX1_leastSquareToBrake_64 : decode cX1_leastSquareToBrake 64 = .ok (.iload_n 3, 1) := by decide +kernel
theorem dX1_leastSquareToBrake_65 : decode cX1_leastSquareToBrake 65 = .ok (.ireturn, 1) := by decide +kernel
set_option maxRecDepth 20000 in
theorem ggX1_comesToBrake_X1_squareBehind : GoodIn wsX1_comesToBrake wsX1_squareBehind := goodIn_r _ [7, 2, 8, 9, 10, 11, 12, 13, 14, 15, 6, 16, 1, 21, 22, 23, 24, 25, 26] (by decide +kernel) (by decide +kernel)
set_option maxRecDepth 20000 in
theorem gX1_comesToBrake_X1_squareBehind : GoodIn wsX1_comesToBrake (wsV RX1 71 RX1 yX1_squareBehind wsX1_squareBehind) := goodIn_app (goodIn_of _ (by decide +kernel)) ggX1_comesToBrake_X1_squareBehind
set_option maxRecDepth 20000 in
theorem ggX1_comesToBrake_X1_nextCell : GoodIn wsX1_comesToBrake wsX1_nextCell := goodIn_r _ [16, 1, 21, 22, 23, 24, 25, 26] (by decide +kernel) (by decide +kernel)
set_option maxRecDepth 20000 in
theorem gX1_comesToBrake_X1_nextCell : GoodIn wsX1_comesToBrake (wsV RX1 55 RX1 yX1_nextCell wsX1_nextCell) := goodIn_app (goodIn_of _ (by decide +kernel)) ggX1_comesToBrake_X1_nextCell
set_option maxRecDepth 20000 in
theorem ggX1_comesToBrake_X1_isValley : GoodIn wsX1_comesToBrake wsX1_isValley := goodIn_r _ [20, 2, 21, 22, 23, 24, 25, 26] (by decide +kernel) (by decide +kernel)
set_option maxRecDepth 20000 in
theorem gX1_comesToBrake_X1_isValley : GoodIn wsX1_comesToBrake (wsV RX1 75 RX1 yX1_isValley wsX1_isValley) := goodIn_app (goodIn_of _ (by decide +kernel)) ggX1_comesToBrake_X1_isValley
theorem dX1_comesToBrake_0 : decode cX1_comesToBrake 0 = .ok (.iload_n 1, 1) := by decide +kernel
theorem dX1_comesToBrake_1 : decode cX1_comesToBrake 1 = .ok (.istore 4, 2) := by decide +kernel
theorem dX1_comesToBrake_3 : decode cX1_comesToBrake 3 = .ok (.iload_n 2, 1) := by decide +kernel
theorem dX1_comesToBrake_4 : decode cX1_comesToBrake 4 = .ok (.istore 5, 2) := by decide +kernel
theorem dX1_comesToBrake_6 : decode cX1_comesToBrake 6 = .ok (.iconst 0, 1) := by decide +kernel
theorem dX1_comesToBrake_7 : decode cX1_comesToBrake 7 = .ok (.istore 6, 2) := by decide +kernel
theorem dX1_comesToBrake_9 : decode cX1_comesToBrake 9 = .ok (.iload 6, 2) := by decide +kernel
theorem dX1_comesToBrake_11 : decode cX1_comesToBrake 11 = .ok (.aload_n 0, 1) := by decide +kernel
theorem dX1_comesToBrake_12 : decode cX1_comesToBrake 12 = .ok (.getfield 24, 3) := by decide +kernel
theorem dX1_comesToBrake_15 : decode cX1_comesToBrake 15 = .ok (.if_icmp .ge 57, 3) := by decide +kernel
theorem dX1_comesToBrake_18 : decode cX1_comesToBrake 18 = .ok (.aload_n 0, 1) := by decide +kernel
theorem dX1_comesToBrake_19 : decode cX1_comesToBrake 19 = .ok (.getfield 15, 3) := by decide +kernel
theorem dX1_comesToBrake_22 : decode cX1_comesToBrake 22 = .ok (.iload 4, 2) := by decide +kernel
theorem dX1_comesToBrake_24 : decode cX1_comesToBrake 24 = .ok (.iaload, 1) := by decide +kernel
theorem dX1_comesToBrake_25 : decode cX1_comesToBrake 25 = .ok (.iconst 2, 1) := by decide +kernel
theorem dX1_comesToBrake_26 : decode cX1_comesToBrake 26 = .ok (.if_icmp .eq 46, 3) := by decide +kernel
theorem dX1_comesToBrake_29 : decode cX1_comesToBrake 29 = .ok (.aload_n 0, 1) := by decide +kernel
theorem dX1_comesToBrake_30 : decode cX1_comesToBrake 30 = .ok (.iload 4, 2) := by decide +kernel
theorem dX1_comesToBrake_32 : decode cX1_comesToBrake 32 = .ok (.iload 5, 2) := by decide +kernel
theorem dX1_comesToBrake_34 : decode cX1_comesToBrake 34 = .ok (.iload_n 3, 1) := by decide +kernel
theorem dX1_comesToBrake_35 : decode cX1_comesToBrake 35 = .ok (.invokevirtual 71, 3) := by decide +kernel
theorem dX1_comesToBrake_38 : decode cX1_comesToBrake 38 = .ok (.istore 5, 2) := by decide +kernel
theorem dX1_comesToBrake_40 : decode cX1_comesToBrake 40 = .ok (.aload_n 0, 1) := by decide +kernel
theorem dX1_comesToBrake_41 : decode cX1_comesToBrake 41 = .ok (.iload 4, 2) := by decide +kernel
theorem dX1_comesToBrake_43 : decode cX1_comesToBrake 43 = .ok (.invokevirtual 55, 3) := by decide +kernel
theorem dX1_comesToBrake_46 : decode cX1_comesToBrake 46 = .ok (.istore 4, 2) := by decide +kernel
theorem dX1_comesToBrake_48 : decode cX1_comesToBrake 48 = .ok (.iload 5, 2) := by decide +kernel
theorem dX1_comesToBrake_50 : decode cX1_comesToBrake 50 = .ok (.ifCond .lt 14, 3) := by decide +kernel
theorem dX1_comesToBrake_53 : decode cX1_comesToBrake 53 = .ok (.aload_n 0, 1) := by decide +kernel
theorem dX1_comesToBrake_54 : decode cX1_comesToBrake 54 = .ok (.iload 4, 2) := by decide +kernel
theorem dX1_comesToBrake_56 : decode cX1_comesToBrake 56 = .ok (.iload 5, 2) := by decide +kernel
theorem dX1_comesToBrake_58 : decode cX1_comesToBrake 58 = .ok (.invokevirtual 75, 3) := by decide +kernel
theorem dX1_comesToBrake_61 : decode cX1_comesToBrake 61 = .ok (.ifCond .eq 5, 3) := by decide +kernel
theorem dX1_comesToBrake_64 : decode cX1_comesToBrake 64 = .ok (.iconst 0, 1) := by decide +kernel
theorem dX1_comesToBrake_65 : decode cX1_comesToBrake 65 = .ok (.ireturn, 1) := by decide +kernel
theorem dX1_comesToBrake_66 : decode cX1_comesToBrake 66 = .ok (.iinc 6 1, 3) := by decide +kernel
theorem dX1_comesToBrake_69 : decode cX1_comesToBrake 69 = .ok (.goto (-60), 3) := by decide +kernel
theorem dX1_comesToBrake_72 : decode cX1_comesToBrake 72 = .ok (.iconst 1, 1) := by decide +kernel
theorem dX1_comesToBrake_73 : decode cX1_comesToBrake 73 = .ok (.ireturn, 1) := by decide +kernel
theorem dX2_init_0 : decode cX2_init 0 = .ok (.aload_n 0, 1) := by decide +kernel
theorem dX2_init_1 : decode cX2_init 1 = .ok (.invokespecial 3, 3) := by decide +kernel
theorem dX2_init_4 : decode cX2_init 4 = .ok (.aload_n 0, 1) := by decide +kernel
theorem dX2_init_5 : decode cX2_init 5 = .ok (.bipush 90, 2) := by decide +kernel
theorem dX2_init_7 : decode cX2_init 7 = .ok (.newarray .int, 2) := by decide +kernel
theorem dX2_init_9 : decode cX2_init 9 = .ok (.putfield 9, 3) := by decide +kernel
theorem dX2_init_12 : decode cX2_init 12 = .ok (.aload_n 0, 1) := by decide +kernel
theorem dX2_init_13 : decode cX2_init 13 = .ok (.iconst 0, 1) := by decide +kernel
theorem dX2_init_14 : decode cX2_init 14 = .ok (.putfield 15, 3) := by decide +kernel
theorem dX2_init_17 : decode cX2_init 17 = .ok (.return_, 1) := by decide +kernel
theorem dX2_add_0 : decode cX2_add 0 = .ok (.aload_n 0, 1) := by decide +kernel
theorem dX2_add_1 : decode cX2_add 1 = .ok (.getfield 15, 3) := by decide +kernel
theorem dX2_add_4 : decode cX2_add 4 = .ok (.bipush 90, 2) := by decide +kernel
theorem dX2_add_6 : decode cX2_add 6 = .ok (.if_icmp .ge 23, 3) := by decide +kernel
theorem dX2_add_9 : decode cX2_add 9 = .ok (.aload_n 0, 1) := by decide +kernel
theorem dX2_add_10 : decode cX2_add 10 = .ok (.getfield 9, 3) := by decide +kernel
theorem dX2_add_13 : decode cX2_add 13 = .ok (.aload_n 0, 1) := by decide +kernel
theorem dX2_add_14 : decode cX2_add 14 = .ok (.getfield 15, 3) := by decide +kernel
theorem dX2_add_17 : decode cX2_add 17 = .ok (.iload_n 1, 1) := by decide +kernel
theorem dX2_add_18 : decode cX2_add 18 = .ok (.iastore, 1) := by decide +kernel
theorem dX2_add_19 : decode cX2_add 19 = .ok (.aload_n 0, 1) := by decide +kernel
theorem dX2_add_20 : decode cX2_add 20 = .ok (.dup, 1) := by decide +kernel
theorem dX2_add_21 : decode cX2_add 21 = .ok (.getfield 15, 3) := by decide +kernel
theorem dX2_add_24 : decode cX2_add 24 = .ok (.iconst 1, 1) := by decide +kernel
theorem dX2_add_25 : decode cX2_add 25 = .ok (.iadd, 1) := by decide +kernel
theorem dX2_add_26 : decode cX2_add 26 = .ok (.putfield 15, 3) := by decide +kernel
theorem dX2_add_29 : decode cX2_add 29 = .ok (.return_, 1) := by decide +kernel
theorem dX2_clear_0 : decode cX2_clear 0 = .ok (.aload_n 0, 1) := by decide +kernel
theorem dX2_clear_1 : decode cX2_clear 1 = .ok (.iconst 0, 1) := by decide +kernel
theorem dX2_clear_2 : decode cX2_clear 2 = .ok (.putfield 15, 3) := by decide +kernel
theorem dX2_clear_5 : decode cX2_clear 5 = .ok (.return_, 1) := by decide +kernel
set_option maxRecDepth 20000 in
theorem ggX2_errorPosition_X2_heightFits : GoodIn wsX2_errorPosition wsX2_heightFits := goodIn_r _ [7, 2, 12, 13] (by decide +kernel) (by decide +kernel)
set_option maxRecDepth 20000 in
theorem gX2_errorPosition_X2_heightFits : GoodIn wsX2_errorPosition (wsV RX2 19 RX2 yX2_heightFits wsX2_heightFits) := goodIn_app (goodIn_of _ (by decide +kernel)) ggX2_errorPosition_X2_heightFits
set_option maxRecDepth 20000 in
theorem ggX2_errorPosition_X2_kindFits : GoodIn wsX2_errorPosition wsX2_kindFits := goodIn_r _ [11, 2, 12, 13] (by decide +kernel) (by decide +kernel)
set_option maxRecDepth 20000 in
theorem gX2_errorPosition_X2_kindFits : GoodIn wsX2_errorPosition (wsV RX2 23 RX2 yX2_kindFits wsX2_kindFits) := goodIn_app (goodIn_of _ (by decide +kernel)) ggX2_errorPosition_X2_kindFits
theorem dX2_errorPosition_0 : decode cX2_errorPosition 0 = .ok (.iconst 0, 1) := by decide +kernel
theorem dX2_errorPosition_1 : decode cX2_errorPosition 1 = .ok (.istore_n 1, 1) := by decide +kernel
theorem dX2_errorPosition_2 : decode cX2_errorPosition 2 = .ok (.iconst 0, 1) := by decide +kernel
theorem dX2_errorPosition_3 : decode cX2_errorPosition 3 = .ok (.istore_n 2, 1) := by decide +kernel
theorem dX2_errorPosition_4 : decode cX2_errorPosition 4 = .ok (.iload_n 2, 1) := by decide +kernel
theorem dX2_errorPosition_5 : decode cX2_errorPosition 5 = .ok (.aload_n 0, 1) := by decide +kernel
theorem dX2_errorPosition_6 : decode cX2_errorPosition 6 = .ok (.getfield 15, 3) := by decide +kernel
theorem dX2_errorPosition_9 : decode cX2_errorPosition 9 = .ok (.if_icmp .ge 50, 3) := by decide +kernel
theorem dX2_errorPosition_12 : decode cX2_errorPosition 12 = .ok (.iload_n 2, 1) := by decide +kernel
theorem dX2_errorPosition_13 : decode cX2_errorPosition 13 = .ok (.iconst 2, 1) := by decide +kernel
theorem dX2_errorPosition_14 : decode cX2_errorPosition 14 = .ok (.irem, 1) := by decide +kernel
theorem dX2_errorPosition_15 : decode cX2_errorPosition 15 = .ok (.ifCond .ne 11, 3) := by decide +kernel
theorem dX2_errorPosition_18 : decode cX2_errorPosition 18 = .ok (.aload_n 0, 1) := by decide +kernel
theorem dX2_errorPosition_19 : decode cX2_errorPosition 19 = .ok (.iload_n 2, 1) := by decide +kernel
theorem dX2_errorPosition_20 : decode cX2_errorPosition 20 = .ok (.invokevirtual 19, 3) := by decide +kernel
theorem dX2_errorPosition_23 : decode cX2_errorPosition 23 = .ok (.goto 9, 3) := by decide +kernel
theorem dX2_errorPosition_26 : decode cX2_errorPosition 26 = .ok (.aload_n 0, 1) := by decide +kernel
theorem dX2_errorPosition_27 : decode cX2_errorPosition 27 = .ok (.iload_n 2, 1) := by decide +kernel
theorem dX2_errorPosition_28 : decode cX2_errorPosition 28 = .ok (.iload_n 1, 1) := by decide +kernel
theorem dX2_errorPosition_29 : decode cX2_errorPosition 29 = .ok (.invokevirtual 23, 3) := by decide +kernel
theorem dX2_errorPosition_32 : decode cX2_errorPosition 32 = .ok (.istore_n 3, 1) := by decide +kernel
theorem dX2_errorPosition_33 : decode cX2_errorPosition 33 = .ok (.iload_n 3, 1) := by decide +kernel
theorem dX2_errorPosition_34 : decode cX2_errorPosition 34 = .ok (.ifCond .ne 5, 3) := by decide +kernel
theorem dX2_errorPosition_37 : decode cX2_errorPosition 37 = .ok (.iload_n 2, 1) := by decide +kernel
theorem dX2_errorPosition_38 : decode cX2_errorPosition 38 = .ok (.ireturn, 1) := by decide +kernel
theorem dX2_errorPosition_39 : decode cX2_errorPosition 39 = .ok (.aload_n 0, 1) := by decide +kernel
theorem dX2_errorPosition_40 : decode cX2_errorPosition 40 = .ok (.getfield 9, 3) := by decide +kernel
theorem dX2_errorPosition_43 : decode cX2_errorPosition 43 = .ok (.iload_n 2, 1) := by decide +kernel
theorem dX2_errorPosition_44 : decode cX2_errorPosition 44 = .ok (.iaload, 1) := by decide +kernel
theorem dX2_errorPosition_45 : decode cX2_errorPosition 45 = .ok (.bipush 98, 2) := by decide +kernel
theorem dX2_errorPosition_47 : decode cX2_errorPosition 47 = .ok (.if_icmp .ne 6, 3) := by decide +kernel
theorem dX2_errorPosition_50 : decode cX2_errorPosition 50 = .ok (.iinc 1 1, 3) := by decide +kernel
theorem dX2_errorPosition_53 : decode cX2_errorPosition 53 = .ok (.iinc 2 1, 3) := by decide +kernel
theorem dX2_errorPosition_56 : decode cX2_errorPosition 56 = .ok (.goto (-52), 3) := by decide +kernel
theorem dX2_errorPosition_59 : decode cX2_errorPosition 59 = .ok (.aload_n 0, 1) := by decide +kernel
theorem dX2_errorPosition_60 : decode cX2_errorPosition 60 = .ok (.getfield 15, 3) := by decide +kernel
theorem dX2_errorPosition_63 : decode cX2_errorPosition 63 = .ok (.iconst 2, 1) := by decide +kernel
theorem dX2_errorPosition_64 : decode cX2_errorPosition 64 = .ok (.irem, 1) := by decide +kernel
theorem dX2_errorPosition_65 : decode cX2_errorPosition 65 = .ok (.ifCond .ne 22, 3) := by decide +kernel
theorem dX2_errorPosition_68 : decode cX2_errorPosition 68 = .ok (.aload_n 0, 1) := by decide +kernel
theorem dX2_errorPosition_69 : decode cX2_errorPosition 69 = .ok (.getfield 15, 3) := by decide +kernel
theorem dX2_errorPosition_72 : decode cX2_errorPosition 72 = .ok (.iconst 2, 1) := by decide +kernel
theorem dX2_errorPosition_73 : decode cX2_errorPosition 73 = .ok (.idiv, 1) := by decide +kernel
theorem dX2_errorPosition_74 : decode cX2_errorPosition 74 = .ok (.iconst 4, 1) := by decide +kernel
theorem dX2_errorPosition_75 : decode cX2_errorPosition 75 = .ok (.if_icmp .lt 12, 3) := by decide +kernel
theorem dX2_errorPosition_78 : decode cX2_errorPosition 78 = .ok (.iload_n 1, 1) := by decide +kernel
theorem dX2_errorPosition_79 : decode cX2_errorPosition 79 = .ok (.iconst 2, 1) := by decide +kernel
theorem dX2_errorPosition_80 : decode cX2_errorPosition 80 = .ok (.if_icmp .lt 7, 3) := by decide +kernel
theorem dX2_errorPosition_83 : decode cX2_errorPosition 83 = .ok (.iconst 1, 1) := by decide +kernel
theorem dX2_errorPosition_84 : decode cX2_errorPosition 84 = .ok (.goto 4, 3) := by decide +kernel
theorem dX2_errorPosition_87 : decode cX2_errorPosition 87 = .ok (.iconst 0, 1) := by decide +kernel
theorem dX2_errorPosition_88 : decode cX2_errorPosition 88 = .ok (.istore_n 2, 1) := by decide +kernel
theorem dX2_errorPosition_89 : decode cX2_errorPosition 89 = .ok (.iload_n 2, 1) := by decide +kernel
theorem dX2_errorPosition_90 : decode cX2_errorPosition 90 = .ok (.ifCond .eq 7, 3) := by decide +kernel
theorem dX2_errorPosition_93 : decode cX2_errorPosition 93 = .ok (.iconst (-1), 1) := by decide +kernel
theorem dX2_errorPosition_94 : decode cX2_errorPosition 94 = .ok (.goto 7, 3) := by decide +kernel
theorem dX2_errorPosition_97 : decode cX2_errorPosition 97 = .ok (.aload_n 0, 1) := by decide +kernel
theorem dX2_errorPosition_98 : decode cX2_errorPosition 98 = .ok (.getfield 15, 3) := by decide +kernel
theorem dX2_errorPosition_101 : decode cX2_errorPosition 101 = .ok (.ireturn, 1) := by decide +kernel
theorem dX2_heightFits_0 : decode cX2_heightFits 0 = .ok (.iload_n 1, 1) := by decide +kernel
theorem dX2_heightFits_1 : decode cX2_heightFits 1 = .ok (.iconst 2, 1) := by decide +kernel
theorem dX2_heightFits_2 : decode cX2_heightFits 2 = .ok (.idiv, 1) := by decide +kernel
theorem dX2_heightFits_3 : decode cX2_heightFits 3 = .ok (.bipush 30, 2) := by decide +kernel
theorem dX2_heightFits_5 : decode cX2_heightFits 5 = .ok (.if_icmp .ge 29, 3) := by decide +kernel
theorem dX2_heightFits_8 : decode cX2_heightFits 8 = .ok (.aload_n 0, 1) := by decide +kernel
theorem dX2_heightFits_9 : decode cX2_heightFits 9 = .ok (.getfield 9, 3) := by decide +kernel
theorem dX2_heightFits_12 : decode cX2_heightFits 12 = .ok (.iload_n 1, 1) := by decide +kernel
theorem dX2_heightFits_13 : decode cX2_heightFits 13 = .ok (.iaload, 1) := by decide +kernel
theorem dX2_heightFits_14 : decode cX2_heightFits 14 = .ok (.bipush 48, 2) := by decide +kernel
theorem dX2_heightFits_16 : decode cX2_heightFits 16 = .ok (.if_icmp .lt 18, 3) := by decide +kernel
theorem dX2_heightFits_19 : decode cX2_heightFits 19 = .ok (.aload_n 0, 1) := by decide +kernel
theorem dX2_heightFits_20 : decode cX2_heightFits 20 = .ok (.getfield 9, 3) := by decide +kernel
theorem dX2_heightFits_23 : decode cX2_heightFits 23 = .ok (.iload_n 1, 1) := by decide +kernel
theorem dX2_heightFits_24 : decode cX2_heightFits 24 = .ok (.iaload, 1) := by decide +kernel
theorem dX2_heightFits_25 : decode cX2_heightFits 25 = .ok (.bipush 57, 2) := by decide +kernel
theorem dX2_heightFits_27 : decode cX2_heightFits 27 = .ok (.if_icmp .gt 7, 3) := by decide +kernel
theorem dX2_heightFits_30 : decode cX2_heightFits 30 = .ok (.iconst 1, 1) := by decide +kernel
theorem dX2_heightFits_31 : decode cX2_heightFits 31 = .ok (.goto 4, 3) := by decide +kernel
theorem dX2_heightFits_34 : decode cX2_heightFits 34 = .ok (.iconst 0, 1) := by decide +kernel
theorem dX2_heightFits_35 : decode cX2_heightFits 35 = .ok (.ireturn, 1) := by decide +kernel
theorem dX2_kindFits_0 : decode cX2_kindFits 0 = .ok (.aload_n 0, 1) := by decide +kernel
theorem dX2_kindFits_1 : decode cX2_kindFits 1 = .ok (.getfield 9, 3) := by decide +kernel
theorem dX2_kindFits_4 : decode cX2_kindFits 4 = .ok (.iload_n 1, 1) := by decide +kernel
theorem dX2_kindFits_5 : decode cX2_kindFits 5 = .ok (.iaload, 1) := by decide +kernel
theorem dX2_kindFits_6 : decode cX2_kindFits 6 = .ok (.istore_n 3, 1) := by decide +kernel
theorem dX2_kindFits_7 : decode cX2_kindFits 7 = .ok (.iload_n 3, 1) := by decide +kernel
theorem dX2_kindFits_8 : decode cX2_kindFits 8 = .ok (.bipush 108, 2) := by decide +kernel
theorem dX2_kindFits_10 : decode cX2_kindFits 10 = .ok (.if_icmp .eq 21, 3) := by decide +kernel
theorem dX2_kindFits_13 : decode cX2_kindFits 13 = .ok (.iload_n 3, 1) := by decide +kernel
theorem dX2_kindFits_14 : decode cX2_kindFits 14 = .ok (.bipush 46, 2) := by decide +kernel
theorem dX2_kindFits_16 : decode cX2_kindFits 16 = .ok (.if_icmp .eq 15, 3) := by decide +kernel
theorem dX2_kindFits_19 : decode cX2_kindFits 19 = .ok (.iload_n 3, 1) := by decide +kernel
theorem dX2_kindFits_20 : decode cX2_kindFits 20 = .ok (.bipush 98, 2) := by decide +kernel
theorem dX2_kindFits_22 : decode cX2_kindFits 22 = .ok (.if_icmp .ne 13, 3) := by decide +kernel
theorem dX2_kindFits_25 : decode cX2_kindFits 25 = .ok (.iload_n 2, 1) := by decide +kernel
theorem dX2_kindFits_26 : decode cX2_kindFits 26 = .ok (.bipush 8, 2) := by decide +kernel
theorem dX2_kindFits_28 : decode cX2_kindFits 28 = .ok (.if_icmp .ge 7, 3) := by decide +kernel
theorem dX2_kindFits_31 : decode cX2_kindFits 31 = .ok (.iconst 1, 1) := by decide +kernel
theorem dX2_kindFits_32 : decode cX2_kindFits 32 = .ok (.goto 4, 3) := by decide +kernel
theorem dX2_kindFits_35 : decode cX2_kindFits 35 = .ok (.iconst 0, 1) := by decide +kernel
theorem dX2_kindFits_36 : decode cX2_kindFits 36 = .ok (.ireturn, 1) := by decide +kernel
theorem dX3_init_0 : decode cX3_init 0 = .ok (.aload_n 0, 1) := by decide +kernel
theorem dX3_init_1 : decode cX3_init 1 = .ok (.invokespecial 3, 3) := by decide +kernel
theorem dX3_init_4 : decode cX3_init 4 = .ok (.aload_n 0, 1) := by decide +kernel
theorem dX3_init_5 : decode cX3_init 5 = .ok (.iconst 0, 1) := by decide +kernel
theorem dX3_init_6 : decode cX3_init 6 = .ok (.putfield 9, 3) := by decide +kernel
theorem dX3_init_9 : decode cX3_init 9 = .ok (.aload_n 0, 1) := by decide +kernel
theorem dX3_init_10 : decode cX3_init 10 = .ok (.iconst 0, 1) := by decide +kernel
theorem dX3_init_11 : decode cX3_init 11 = .ok (.putfield 15, 3) := by decide +kernel
theorem dX3_init_14 : decode cX3_init 14 = .ok (.aload_n 0, 1) := by decide +kernel
theorem dX3_init_15 : decode cX3_init 15 = .ok (.iconst 0, 1) := by decide +kernel
theorem dX3_init_16 : decode cX3_init 16 = .ok (.putfield 18, 3) := by decide +kernel
theorem dX3_init_19 : decode cX3_init 19 = .ok (.aload_n 0, 1) := by decide +kernel
theorem dX3_init_20 : decode cX3_init 20 = .ok (.iconst 0, 1) := by decide +kernel
theorem dX3_init_21 : decode cX3_init 21 = .ok (.putfield 21, 3) := by decide +kernel
theorem dX3_init_24 : decode cX3_init 24 = .ok (.aload_n 0, 1) := by decide +kernel
theorem dX3_init_25 : decode cX3_init 25 = .ok (.iconst 1, 1) := by decide +kernel
theorem dX3_init_26 : decode cX3_init 26 = .ok (.putfield 24, 3) := by decide +kernel
theorem dX3_init_29 : decode cX3_init 29 = .ok (.aload_n 0, 1) := by decide +kernel
theorem dX3_init_30 : decode cX3_init 30 = .ok (.iconst 0, 1) := by decide +kernel
theorem dX3_init_31 : decode cX3_init 31 = .ok (.putfield 27, 3) := by decide +kernel
theorem dX3_init_34 : decode cX3_init 34 = .ok (.aload_n 0, 1) := by decide +kernel
theorem dX3_init_35 : decode cX3_init 35 = .ok (.iconst 0, 1) := by decide +kernel
theorem dX3_init_36 : decode cX3_init 36 = .ok (.putfield 30, 3) := by decide +kernel
theorem dX3_init_39 : decode cX3_init 39 = .ok (.aload_n 0, 1) := by decide +kernel
theorem dX3_init_40 : decode cX3_init 40 = .ok (.iconst 0, 1) := by decide +kernel
theorem dX3_init_41 : decode cX3_init 41 = .ok (.putfield 33, 3) := by decide +kernel
theorem dX3_init_44 : decode cX3_init 44 = .ok (.return_, 1) := by decide +kernel
theorem dX3_copyFrom_0 : decode cX3_copyFrom 0 = .ok (.aload_n 0, 1) := by decide +kernel
theorem dX3_copyFrom_1 : decode cX3_copyFrom 1 = .ok (.aload_n 1, 1) := by decide +kernel
theorem dX3_copyFrom_2 : decode cX3_copyFrom 2 = .ok (.getfield 9, 3) := by decide +kernel
theorem dX3_copyFrom_5 : decode cX3_copyFrom 5 = .ok (.putfield 9, 3) := by decide +kernel
theorem dX3_copyFrom_8 : decode cX3_copyFrom 8 = .ok (.aload_n 0, 1) := by decide +kernel
theorem dX3_copyFrom_9 : decode cX3_copyFrom 9 = .ok (.aload_n 1, 1) := by decide +kernel
theorem dX3_copyFrom_10 : decode cX3_copyFrom 10 = .ok (.getfield 15, 3) := by decide +kernel
theorem dX3_copyFrom_13 : decode cX3_copyFrom 13 = .ok (.putfield 15, 3) := by decide +kernel
theorem dX3_copyFrom_16 : decode cX3_copyFrom 16 = .ok (.aload_n 0, 1) := by decide +kernel
theorem dX3_copyFrom_17 : decode cX3_copyFrom 17 = .ok (.aload_n 1, 1) := by decide +kernel
theorem dX3_copyFrom_18 : decode cX3_copyFrom 18 = .ok (.getfield 18, 3) := by decide +kernel
theorem dX3_copyFrom_21 : decode cX3_copyFrom 21 = .ok (.putfield 18, 3) := by decide +kernel
theorem dX3_copyFrom_24 : decode cX3_copyFrom 24 = .ok (.aload_n 0, 1) := by decide +kernel
theorem dX3_copyFrom_25 : decode cX3_copyFrom 25 = .ok (.aload_n 1, 1) := by decide +kernel
theorem dX3_copyFrom_26 : decode cX3_copyFrom 26 = .ok (.getfield 21, 3) := by decide +kernel
theorem dX3_copyFrom_29 : decode cX3_copyFrom 29 = .ok (.putfield 21, 3) := by decide +kernel
theorem dX3_copyFrom_32 : decode cX3_copyFrom 32 = .ok (.aload_n 0, 1) := by decide +kernel
theorem dX3_copyFrom_33 : decode cX3_copyFrom 33 = .ok (.aload_n 1, 1) := by decide +kernel
theorem dX3_copyFrom_34 : decode cX3_copyFrom 34 = .ok (.getfield 24, 3) := by decide +kernel
theorem dX3_copyFrom_37 : decode cX3_copyFrom 37 = .ok (.putfield 24, 3) := by decide +kernel
theorem dX3_copyFrom_40 : decode cX3_copyFrom 40 = .ok (.aload_n 0, 1) := by decide +kernel
theorem dX3_copyFrom_41 : decode cX3_copyFrom 41 = .ok (.aload_n 1, 1) := by decide +kernel
theorem dX3_copyFrom_42 : decode cX3_copyFrom 42 = .ok (.getfield 27, 3) := by decide +kernel
theorem dX3_copyFrom_45 : decode cX3_copyFrom 45 = .ok (.putfield 27, 3) := by decide +kernel
theorem dX3_copyFrom_48 : decode cX3_copyFrom 48 = .ok (.aload_n 0, 1) := by decide +kernel
theorem dX3_copyFrom_49 : decode cX3_copyFrom 49 = .ok (.aload_n 1, 1) := by decide +kernel
theorem dX3_copyFrom_50 : decode cX3_copyFrom 50 = .ok (.getfield 30, 3) := by decide +kernel
theorem dX3_copyFrom_53 : decode cX3_copyFrom 53 = .ok (.putfield 30, 3) := by decide +kernel
theorem dX3_copyFrom_56 : decode cX3_copyFrom 56 = .ok (.aload_n 0, 1) := by decide +kernel
theorem dX3_copyFrom_57 : decode cX3_copyFrom 57 = .ok (.aload_n 1, 1) := by decide +kernel
theorem dX3_copyFrom_58 : decode cX3_copyFrom 58 = .ok (.getfield 33, 3) := by decide +kernel
theorem dX3_copyFrom_61 : decode cX3_copyFrom 61 = .ok (.putfield 33, 3) := by decide +kernel
theorem dX3_copyFrom_64 : decode cX3_copyFrom 64 = .ok (.return_, 1) := by decide +kernel
set_option maxRecDepth 20000 in
theorem ggX3_begin_X3_standOn : GoodIn wsX3_begin wsX3_standOn := goodIn_r _ [8, 9, 10, 11, 12, 13, 14, 15, 16, 17, 18, 19, 20, 21] (by decide +kernel) (by decide +kernel)
set_option maxRecDepth 20000 in
theorem gX3_begin_X3_standOn : GoodIn wsX3_begin (wsV RX3 36 RX3 yX3_standOn wsX3_standOn) := goodIn_app (goodIn_of _ (by decide +kernel)) ggX3_begin_X3_standOn
theorem dX3_begin_0 : decode cX3_begin 0 = .ok (.aload_n 0, 1) := by decide +kernel
theorem dX3_begin_1 : decode cX3_begin 1 = .ok (.iload_n 1, 1) := by decide +kernel
theorem dX3_begin_2 : decode cX3_begin 2 = .ok (.invokevirtual 36, 3) := by decide +kernel
theorem dX3_begin_5 : decode cX3_begin 5 = .ok (.aload_n 0, 1) := by decide +kernel
theorem dX3_begin_6 : decode cX3_begin 6 = .ok (.iload_n 2, 1) := by decide +kernel
theorem dX3_begin_7 : decode cX3_begin 7 = .ok (.putfield 21, 3) := by decide +kernel
theorem dX3_begin_10 : decode cX3_begin 10 = .ok (.aload_n 0, 1) := by decide +kernel
theorem dX3_begin_11 : decode cX3_begin 11 = .ok (.iconst 0, 1) := by decide +kernel
theorem dX3_begin_12 : decode cX3_begin 12 = .ok (.putfield 30, 3) := by decide +kernel
theorem dX3_begin_15 : decode cX3_begin 15 = .ok (.aload_n 0, 1) := by decide +kernel
theorem dX3_begin_16 : decode cX3_begin 16 = .ok (.iconst 0, 1) := by decide +kernel
theorem dX3_begin_17 : decode cX3_begin 17 = .ok (.putfield 33, 3) := by decide +kernel
theorem dX3_begin_20 : decode cX3_begin 20 = .ok (.return_, 1) := by decide +kernel
theorem dX3_standOn_0 : decode cX3_standOn 0 = .ok (.aload_n 0, 1) := by decide +kernel
theorem dX3_standOn_1 : decode cX3_standOn 1 = .ok (.iload_n 1, 1) := by decide +kernel
theorem dX3_standOn_2 : decode cX3_standOn 2 = .ok (.putfield 9, 3) := by decide +kernel
theorem dX3_standOn_5 : decode cX3_standOn 5 = .ok (.aload_n 0, 1) := by decide +kernel
theorem dX3_standOn_6 : decode cX3_standOn 6 = .ok (.iconst 0, 1) := by decide +kernel
theorem dX3_standOn_7 : decode cX3_standOn 7 = .ok (.putfield 15, 3) := by decide +kernel
theorem dX3_standOn_10 : decode cX3_standOn 10 = .ok (.aload_n 0, 1) := by decide +kernel
theorem dX3_standOn_11 : decode cX3_standOn 11 = .ok (.iconst 0, 1) := by decide +kernel
theorem dX3_standOn_12 : decode cX3_standOn 12 = .ok (.putfield 18, 3) := by decide +kernel
theorem dX3_standOn_15 : decode cX3_standOn 15 = .ok (.aload_n 0, 1) := by decide +kernel
theorem dX3_standOn_16 : decode cX3_standOn 16 = .ok (.iconst 1, 1) := by decide +kernel
theorem dX3_standOn_17 : decode cX3_standOn 17 = .ok (.putfield 24, 3) := by decide +kernel
theorem dX3_standOn_20 : decode cX3_standOn 20 = .ok (.aload_n 0, 1) := by decide +kernel
theorem dX3_standOn_21 : decode cX3_standOn 21 = .ok (.iconst 0, 1) := by decide +kernel
theorem dX3_standOn_22 : decode cX3_standOn 22 = .ok (.putfield 27, 3) := by decide +kernel
theorem dX3_standOn_25 : decode cX3_standOn 25 = .ok (.return_, 1) := by decide +kernel
theorem dX3_lie_0 : decode cX3_lie 0 = .ok (.aload_n 0, 1) := by decide +kernel
theorem dX3_lie_1 : decode cX3_lie 1 = .ok (.iconst 0, 1) := by decide +kernel
theorem dX3_lie_2 : decode cX3_lie 2 = .ok (.putfield 15, 3) := by decide +kernel
theorem dX3_lie_5 : decode cX3_lie 5 = .ok (.aload_n 0, 1) := by decide +kernel
theorem dX3_lie_6 : decode cX3_lie 6 = .ok (.iconst 0, 1) := by decide +kernel
theorem dX3_lie_7 : decode cX3_lie 7 = .ok (.putfield 18, 3) := by decide +kernel
theorem dX3_lie_10 : decode cX3_lie 10 = .ok (.aload_n 0, 1) := by decide +kernel
theorem dX3_lie_11 : decode cX3_lie 11 = .ok (.iconst 2, 1) := by decide +kernel
theorem dX3_lie_12 : decode cX3_lie 12 = .ok (.putfield 24, 3) := by decide +kernel
theorem dX3_lie_15 : decode cX3_lie 15 = .ok (.return_, 1) := by decide +kernel
theorem dX3_start_0 : decode cX3_start 0 = .ok (.aload_n 0, 1) := by decide +kernel
theorem dX3_start_1 : decode cX3_start 1 = .ok (.bipush 25, 2) := by decide +kernel
theorem dX3_start_3 : decode cX3_start 3 = .ok (.putfield 15, 3) := by decide +kernel
theorem dX3_start_6 : decode cX3_start 6 = .ok (.aload_n 0, 1) := by decide +kernel
theorem dX3_start_7 : decode cX3_start 7 = .ok (.iconst 0, 1) := by decide +kernel
theorem dX3_start_8 : decode cX3_start 8 = .ok (.putfield 18, 3) := by decide +kernel
theorem dX3_start_11 : decode cX3_start 11 = .ok (.aload_n 0, 1) := by decide +kernel
theorem dX3_start_12 : decode cX3_start 12 = .ok (.iconst 0, 1) := by decide +kernel
theorem dX3_start_13 : decode cX3_start 13 = .ok (.putfield 24, 3) := by decide +kernel
theorem dX3_start_16 : decode cX3_start 16 = .ok (.aload_n 0, 1) := by decide +kernel
theorem dX3_start_17 : decode cX3_start 17 = .ok (.iconst 0, 1) := by decide +kernel
theorem dX3_start_18 : decode cX3_start 18 = .ok (.putfield 27, 3) := by decide +kernel
theorem dX3_start_21 : decode cX3_start 21 = .ok (.return_, 1) := by decide +kernel
theorem dX3_moveTo_0 : decode cX3_moveTo 0 = .ok (.aload_n 0, 1) := by decide +kernel
theorem dX3_moveTo_1 : decode cX3_moveTo 1 = .ok (.iload_n 1, 1) := by decide +kernel
theorem dX3_moveTo_2 : decode cX3_moveTo 2 = .ok (.putfield 9, 3) := by decide +kernel
theorem dX3_moveTo_5 : decode cX3_moveTo 5 = .ok (.aload_n 0, 1) := by decide +kernel
theorem dX3_moveTo_6 : decode cX3_moveTo 6 = .ok (.iload_n 2, 1) := by decide +kernel
theorem dX3_moveTo_7 : decode cX3_moveTo 7 = .ok (.putfield 15, 3) := by decide +kernel
theorem dX3_moveTo_10 : decode cX3_moveTo 10 = .ok (.aload_n 0, 1) := by decide +kernel
theorem dX3_moveTo_11 : decode cX3_moveTo 11 = .ok (.dup, 1) := by decide +kernel
theorem dX3_moveTo_12 : decode cX3_moveTo 12 = .ok (.getfield 30, 3) := by decide +kernel
theorem dX3_moveTo_15 : decode cX3_moveTo 15 = .ok (.iconst 1, 1) := by decide +kernel
theorem dX3_moveTo_16 : decode cX3_moveTo 16 = .ok (.iadd, 1) := by decide +kernel
theorem dX3_moveTo_17 : decode cX3_moveTo 17 = .ok (.putfield 30, 3) := by decide +kernel
theorem dX3_moveTo_20 : decode cX3_moveTo 20 = .ok (.return_, 1) := by decide +kernel
theorem dX3_speed_0 : decode cX3_speed 0 = .ok (.iconst 0, 1) := by decide +kernel
theorem dX3_speed_1 : decode cX3_speed 1 = .ok (.istore_n 1, 1) := by decide +kernel
theorem dX3_speed_2 : decode cX3_speed 2 = .ok (.bipush 64, 2) := by decide +kernel
theorem dX3_speed_4 : decode cX3_speed 4 = .ok (.istore_n 2, 1) := by decide +kernel
theorem dX3_speed_5 : decode cX3_speed 5 = .ok (.iload_n 2, 1) := by decide +kernel
theorem dX3_speed_6 : decode cX3_speed 6 = .ok (.ifCond .le 26, 3) := by decide +kernel
theorem dX3_speed_9 : decode cX3_speed 9 = .ok (.iload_n 1, 1) := by decide +kernel
theorem dX3_speed_10 : decode cX3_speed 10 = .ok (.iload_n 2, 1) := by decide +kernel
theorem dX3_speed_11 : decode cX3_speed 11 = .ok (.iadd, 1) := by decide +kernel
theorem dX3_speed_12 : decode cX3_speed 12 = .ok (.istore_n 3, 1) := by decide +kernel
theorem dX3_speed_13 : decode cX3_speed 13 = .ok (.iload_n 3, 1) := by decide +kernel
theorem dX3_speed_14 : decode cX3_speed 14 = .ok (.iload_n 3, 1) := by decide +kernel
theorem dX3_speed_15 : decode cX3_speed 15 = .ok (.imul, 1) := by decide +kernel
theorem dX3_speed_16 : decode cX3_speed 16 = .ok (.aload_n 0, 1) := by decide +kernel
theorem dX3_speed_17 : decode cX3_speed 17 = .ok (.getfield 15, 3) := by decide +kernel
theorem dX3_speed_20 : decode cX3_speed 20 = .ok (.if_icmp .gt 5, 3) := by decide +kernel
theorem dX3_speed_23 : decode cX3_speed 23 = .ok (.iload_n 3, 1) := by decide +kernel
theorem dX3_speed_24 : decode cX3_speed 24 = .ok (.istore_n 1, 1) := by decide +kernel
theorem dX3_speed_25 : decode cX3_speed 25 = .ok (.iload_n 2, 1) := by decide +kernel
theorem dX3_speed_26 : decode cX3_speed 26 = .ok (.iconst 2, 1) := by decide +kernel
theorem dX3_speed_27 : decode cX3_speed 27 = .ok (.idiv, 1) := by decide +kernel
theorem dX3_speed_28 : decode cX3_speed 28 = .ok (.istore_n 2, 1) := by decide +kernel
theorem dX3_speed_29 : decode cX3_speed 29 = .ok (.goto (-24), 3) := by decide +kernel
theorem dX3_speed_32 : decode cX3_speed 32 = .ok (.iload_n 1, 1) := by decide +kernel
theorem dX3_speed_33 : decode cX3_speed 33 = .ok (.ireturn, 1) := by decide +kernel
set_option maxRecDepth 20000 in
theorem ggX3_passWarmth_X3_speed : GoodIn wsX3_passWarmth wsX3_speed := goodIn_r _ [11, 12, 13, 14, 15, 16, 17, 18, 19, 20] (by decide +kernel) (by decide +kernel)
set_option maxRecDepth 20000 in
theorem gX3_passWarmth_X3_speed : GoodIn wsX3_passWarmth (wsV RX3 40 RX3 yX3_speed wsX3_speed) := goodIn_app (goodIn_of _ (by decide +kernel)) ggX3_passWarmth_X3_speed
theorem dX3_passWarmth_0 : decode cX3_passWarmth 0 = .ok (.aload_n 0, 1) := by decide +kernel
theorem dX3_passWarmth_1 : decode cX3_passWarmth 1 = .ok (.getfield 24, 3) := by decide +kernel
theorem dX3_passWarmth_4 : decode cX3_passWarmth 4 = .ok (.ifCond .ne 24, 3) := by decide +kernel
theorem dX3_passWarmth_7 : decode cX3_passWarmth 7 = .ok (.aload_n 0, 1) := by decide +kernel
theorem dX3_passWarmth_8 : decode cX3_passWarmth 8 = .ok (.aload_n 0, 1) := by decide +kernel
theorem dX3_passWarmth_9 : decode cX3_passWarmth 9 = .ok (.getfield 21, 3) := by decide +kernel
theorem dX3_passWarmth_12 : decode cX3_passWarmth 12 = .ok (.aload_n 0, 1) := by decide +kernel
theorem dX3_passWarmth_13 : decode cX3_passWarmth 13 = .ok (.invokevirtual 40, 3) := by decide +kernel
theorem dX3_passWarmth_16 : decode cX3_passWarmth 16 = .ok (.bipush 10, 2) := by decide +kernel
theorem dX3_passWarmth_18 : decode cX3_passWarmth 18 = .ok (.idiv, 1) := by decide +kernel
theorem dX3_passWarmth_19 : decode cX3_passWarmth 19 = .ok (.iadd, 1) := by decide +kernel
theorem dX3_passWarmth_20 : decode cX3_passWarmth 20 = .ok (.bipush 100, 2) := by decide +kernel
theorem dX3_passWarmth_22 : decode cX3_passWarmth 22 = .ok (.invokestatic 44, 3) := by decide +kernel
theorem dX3_passWarmth_25 : decode cX3_passWarmth 25 = .ok (.putfield 21, 3) := by decide +kernel
theorem dX3_passWarmth_28 : decode cX3_passWarmth 28 = .ok (.aload_n 0, 1) := by decide +kernel
theorem dX3_passWarmth_29 : decode cX3_passWarmth 29 = .ok (.getfield 21, 3) := by decide +kernel
theorem dX3_passWarmth_32 : decode cX3_passWarmth 32 = .ok (.iload_n 1, 1) := by decide +kernel
theorem dX3_passWarmth_33 : decode cX3_passWarmth 33 = .ok (.if_icmp .ge 16, 3) := by decide +kernel
theorem dX3_passWarmth_36 : decode cX3_passWarmth 36 = .ok (.aload_n 0, 1) := by decide +kernel
theorem dX3_passWarmth_37 : decode cX3_passWarmth 37 = .ok (.dup, 1) := by decide +kernel
theorem dX3_passWarmth_38 : decode cX3_passWarmth 38 = .ok (.getfield 21, 3) := by decide +kernel
theorem dX3_passWarmth_41 : decode cX3_passWarmth 41 = .ok (.iconst 1, 1) := by decide +kernel
theorem dX3_passWarmth_42 : decode cX3_passWarmth 42 = .ok (.iadd, 1) := by decide +kernel
theorem dX3_passWarmth_43 : decode cX3_passWarmth 43 = .ok (.putfield 21, 3) := by decide +kernel
theorem dX3_passWarmth_46 : decode cX3_passWarmth 46 = .ok (.goto 21, 3) := by decide +kernel
theorem dX3_passWarmth_49 : decode cX3_passWarmth 49 = .ok (.aload_n 0, 1) := by decide +kernel
theorem dX3_passWarmth_50 : decode cX3_passWarmth 50 = .ok (.getfield 21, 3) := by decide +kernel
theorem dX3_passWarmth_53 : decode cX3_passWarmth 53 = .ok (.iload_n 1, 1) := by decide +kernel
theorem dX3_passWarmth_54 : decode cX3_passWarmth 54 = .ok (.if_icmp .le 13, 3) := by decide +kernel
theorem dX3_passWarmth_57 : decode cX3_passWarmth 57 = .ok (.aload_n 0, 1) := by decide +kernel
theorem dX3_passWarmth_58 : decode cX3_passWarmth 58 = .ok (.dup, 1) := by decide +kernel
theorem dX3_passWarmth_59 : decode cX3_passWarmth 59 = .ok (.getfield 21, 3) := by decide +kernel
theorem dX3_passWarmth_62 : decode cX3_passWarmth 62 = .ok (.iconst 1, 1) := by decide +kernel
theorem dX3_passWarmth_63 : decode cX3_passWarmth 63 = .ok (.isub, 1) := by decide +kernel
theorem dX3_passWarmth_64 : decode cX3_passWarmth 64 = .ok (.putfield 21, 3) := by decide +kernel
theorem dX3_passWarmth_67 : decode cX3_passWarmth 67 = .ok (.return_, 1) := by decide +kernel
