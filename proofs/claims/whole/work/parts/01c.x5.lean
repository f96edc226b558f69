set_option maxRecDepth 20000 in
theorem ggX5_init_X5_begins : GoodIn wsX5_init wsX5_begins := goodIn_r _ [13, 5, 14, 15, 12, 16, 21, 22, 23, 24, 25, 26, 27, 28] (by decide +kernel) (by decide +kernel)
set_option maxRecDepth 20000 in
theorem gX5_init_X5_begins : GoodIn wsX5_init (wsV RX5 22 RX5 yX5_begins wsX5_begins) := goodIn_app (goodIn_of _ (by decide +kernel)) ggX5_init_X5_begins
set_option maxRecDepth 20000 in
theorem ggX5_init_X5_cell0 : GoodIn wsX5_init wsX5_cell0 := goodIn_r _ [20, 5, 21, 22, 23, 24, 25, 26, 27, 28] (by decide +kernel) (by decide +kernel)
set_option maxRecDepth 20000 in
theorem gX5_init_X5_cell0 : GoodIn wsX5_init (wsV RX5 25 RX5 yX5_cell0 wsX5_cell0) := goodIn_app (goodIn_of _ (by decide +kernel)) ggX5_init_X5_cell0
theorem dX5_init_0 : decode cX5_init 0 = .ok (.aload_n 0, 1) := by decide +kernel
theorem dX5_init_1 : decode cX5_init 1 = .ok (.invokespecial 1, 3) := by decide +kernel
theorem dX5_init_4 : decode cX5_init 4 = .ok (.aload_n 0, 1) := by decide +kernel
theorem dX5_init_5 : decode cX5_init 5 = .ok (.sipush 171, 3) := by decide +kernel
theorem dX5_init_8 : decode cX5_init 8 = .ok (.newarray .int, 2) := by decide +kernel
theorem dX5_init_10 : decode cX5_init 10 = .ok (.putfield 7, 3) := by decide +kernel
theorem dX5_init_13 : decode cX5_init 13 = .ok (.aload_n 0, 1) := by decide +kernel
theorem dX5_init_14 : decode cX5_init 14 = .ok (.sipush 684, 3) := by decide +kernel
theorem dX5_init_17 : decode cX5_init 17 = .ok (.newarray .int, 2) := by decide +kernel
theorem dX5_init_19 : decode cX5_init 19 = .ok (.putfield 13, 3) := by decide +kernel
theorem dX5_init_22 : decode cX5_init 22 = .ok (.aload_n 0, 1) := by decide +kernel
theorem dX5_init_23 : decode cX5_init 23 = .ok (.sipush 171, 3) := by decide +kernel
theorem dX5_init_26 : decode cX5_init 26 = .ok (.newarray .int, 2) := by decide +kernel
theorem dX5_init_28 : decode cX5_init 28 = .ok (.putfield 16, 3) := by decide +kernel
theorem dX5_init_31 : decode cX5_init 31 = .ok (.aload_n 0, 1) := by decide +kernel
theorem dX5_init_32 : decode cX5_init 32 = .ok (.bipush 90, 2) := by decide +kernel
theorem dX5_init_34 : decode cX5_init 34 = .ok (.newarray .int, 2) := by decide +kernel
theorem dX5_init_36 : decode cX5_init 36 = .ok (.putfield 19, 3) := by decide +kernel
theorem dX5_init_39 : decode cX5_init 39 = .ok (.aload_n 0, 1) := by decide +kernel
theorem dX5_init_40 : decode cX5_init 40 = .ok (.getfield 7, 3) := by decide +kernel
theorem dX5_init_43 : decode cX5_init 43 = .ok (.iconst 4, 1) := by decide +kernel
theorem dX5_init_44 : decode cX5_init 44 = .ok (.iconst 3, 1) := by decide +kernel
theorem dX5_init_45 : decode cX5_init 45 = .ok (.iastore, 1) := by decide +kernel
theorem dX5_init_46 : decode cX5_init 46 = .ok (.aload_n 0, 1) := by decide +kernel
theorem dX5_init_47 : decode cX5_init 47 = .ok (.getfield 7, 3) := by decide +kernel
theorem dX5_init_50 : decode cX5_init 50 = .ok (.iconst 5, 1) := by decide +kernel
theorem dX5_init_51 : decode cX5_init 51 = .ok (.iconst 5, 1) := by decide +kernel
theorem dX5_init_52 : decode cX5_init 52 = .ok (.iastore, 1) := by decide +kernel
theorem dX5_init_53 : decode cX5_init 53 = .ok (.aload_n 0, 1) := by decide +kernel
theorem dX5_init_54 : decode cX5_init 54 = .ok (.getfield 7, 3) := by decide +kernel
theorem dX5_init_57 : decode cX5_init 57 = .ok (.bipush 7, 2) := by decide +kernel
theorem dX5_init_59 : decode cX5_init 59 = .ok (.bipush 20, 2) := by decide +kernel
theorem dX5_init_61 : decode cX5_init 61 = .ok (.iastore, 1) := by decide +kernel
theorem dX5_init_62 : decode cX5_init 62 = .ok (.aload_n 0, 1) := by decide +kernel
theorem dX5_init_63 : decode cX5_init 63 = .ok (.invokevirtual 22, 3) := by decide +kernel
theorem dX5_init_66 : decode cX5_init 66 = .ok (.aload_n 0, 1) := by decide +kernel
theorem dX5_init_67 : decode cX5_init 67 = .ok (.iconst 0, 1) := by decide +kernel
theorem dX5_init_68 : decode cX5_init 68 = .ok (.iconst 2, 1) := by decide +kernel
theorem dX5_init_69 : decode cX5_init 69 = .ok (.invokevirtual 25, 3) := by decide +kernel
theorem dX5_init_72 : decode cX5_init 72 = .ok (.aload_n 0, 1) := by decide +kernel
theorem dX5_init_73 : decode cX5_init 73 = .ok (.iconst 1, 1) := by decide +kernel
theorem dX5_init_74 : decode cX5_init 74 = .ok (.iconst 1, 1) := by decide +kernel
theorem dX5_init_75 : decode cX5_init 75 = .ok (.invokevirtual 25, 3) := by decide +kernel
theorem dX5_init_78 : decode cX5_init 78 = .ok (.aload_n 0, 1) := by decide +kernel
theorem dX5_init_79 : decode cX5_init 79 = .ok (.iconst 3, 1) := by decide +kernel
theorem dX5_init_80 : decode cX5_init 80 = .ok (.iconst 1, 1) := by decide +kernel
theorem dX5_init_81 : decode cX5_init 81 = .ok (.invokevirtual 25, 3) := by decide +kernel
theorem dX5_init_84 : decode cX5_init 84 = .ok (.aload_n 0, 1) := by decide +kernel
theorem dX5_init_85 : decode cX5_init 85 = .ok (.iconst 5, 1) := by decide +kernel
theorem dX5_init_86 : decode cX5_init 86 = .ok (.iconst 1, 1) := by decide +kernel
theorem dX5_init_87 : decode cX5_init 87 = .ok (.invokevirtual 25, 3) := by decide +kernel
theorem dX5_init_90 : decode cX5_init 90 = .ok (.aload_n 0, 1) := by decide +kernel
theorem dX5_init_91 : decode cX5_init 91 = .ok (.bipush 7, 2) := by decide +kernel
theorem dX5_init_93 : decode cX5_init 93 = .ok (.iconst 1, 1) := by decide +kernel
theorem dX5_init_94 : decode cX5_init 94 = .ok (.invokevirtual 25, 3) := by decide +kernel
theorem dX5_init_97 : decode cX5_init 97 = .ok (.aload_n 0, 1) := by decide +kernel
theorem dX5_init_98 : decode cX5_init 98 = .ok (.bipush 7, 2) := by decide +kernel
theorem dX5_init_100 : decode cX5_init 100 = .ok (.iconst 2, 1) := by decide +kernel
theorem dX5_init_101 : decode cX5_init 101 = .ok (.invokevirtual 25, 3) := by decide +kernel
theorem dX5_init_104 : decode cX5_init 104 = .ok (.aload_n 0, 1) := by decide +kernel
theorem dX5_init_105 : decode cX5_init 105 = .ok (.iconst 4, 1) := by decide +kernel
theorem dX5_init_106 : decode cX5_init 106 = .ok (.iconst 0, 1) := by decide +kernel
theorem dX5_init_107 : decode cX5_init 107 = .ok (.invokevirtual 25, 3) := by decide +kernel
theorem dX5_init_110 : decode cX5_init 110 = .ok (.aload_n 0, 1) := by decide +kernel
theorem dX5_init_111 : decode cX5_init 111 = .ok (.iconst 1, 1) := by decide +kernel
theorem dX5_init_112 : decode cX5_init 112 = .ok (.iconst 0, 1) := by decide +kernel
theorem dX5_init_113 : decode cX5_init 113 = .ok (.invokevirtual 25, 3) := by decide +kernel
theorem dX5_init_116 : decode cX5_init 116 = .ok (.aload_n 0, 1) := by decide +kernel
theorem dX5_init_117 : decode cX5_init 117 = .ok (.iconst 3, 1) := by decide +kernel
theorem dX5_init_118 : decode cX5_init 118 = .ok (.iconst 0, 1) := by decide +kernel
theorem dX5_init_119 : decode cX5_init 119 = .ok (.invokevirtual 25, 3) := by decide +kernel
theorem dX5_init_122 : decode cX5_init 122 = .ok (.aload_n 0, 1) := by decide +kernel
theorem dX5_init_123 : decode cX5_init 123 = .ok (.iconst 2, 1) := by decide +kernel
theorem dX5_init_124 : decode cX5_init 124 = .ok (.iconst 0, 1) := by decide +kernel
theorem dX5_init_125 : decode cX5_init 125 = .ok (.invokevirtual 25, 3) := by decide +kernel
theorem dX5_init_128 : decode cX5_init 128 = .ok (.aload_n 0, 1) := by decide +kernel
theorem dX5_init_129 : decode cX5_init 129 = .ok (.iconst 4, 1) := by decide +kernel
theorem dX5_init_130 : decode cX5_init 130 = .ok (.iconst 2, 1) := by decide +kernel
theorem dX5_init_131 : decode cX5_init 131 = .ok (.invokevirtual 25, 3) := by decide +kernel
theorem dX5_init_134 : decode cX5_init 134 = .ok (.aload_n 0, 1) := by decide +kernel
theorem dX5_init_135 : decode cX5_init 135 = .ok (.iconst 2, 1) := by decide +kernel
theorem dX5_init_136 : decode cX5_init 136 = .ok (.iconst 0, 1) := by decide +kernel
theorem dX5_init_137 : decode cX5_init 137 = .ok (.invokevirtual 25, 3) := by decide +kernel
theorem dX5_init_140 : decode cX5_init 140 = .ok (.aload_n 0, 1) := by decide +kernel
theorem dX5_init_141 : decode cX5_init 141 = .ok (.iconst 1, 1) := by decide +kernel
theorem dX5_init_142 : decode cX5_init 142 = .ok (.iconst 0, 1) := by decide +kernel
theorem dX5_init_143 : decode cX5_init 143 = .ok (.invokevirtual 25, 3) := by decide +kernel
theorem dX5_init_146 : decode cX5_init 146 = .ok (.aload_n 0, 1) := by decide +kernel
theorem dX5_init_147 : decode cX5_init 147 = .ok (.iconst 0, 1) := by decide +kernel
theorem dX5_init_148 : decode cX5_init 148 = .ok (.iconst 2, 1) := by decide +kernel
theorem dX5_init_149 : decode cX5_init 149 = .ok (.invokevirtual 25, 3) := by decide +kernel
theorem dX5_init_152 : decode cX5_init 152 = .ok (.return_, 1) := by decide +kernel
theorem dX5_thrown_0 : decode cX5_thrown 0 = .ok (.aload_n 0, 1) := by decide +kernel
theorem dX5_thrown_1 : decode cX5_thrown 1 = .ok (.getfield 29, 3) := by decide +kernel
theorem dX5_thrown_4 : decode cX5_thrown 4 = .ok (.ireturn, 1) := by decide +kernel
theorem dX5_in_0 : decode cX5_in 0 = .ok (.iload_n 0, 1) := by decide +kernel
theorem dX5_in_1 : decode cX5_in 1 = .ok (.iload_n 1, 1) := by decide +kernel
theorem dX5_in_2 : decode cX5_in 2 = .ok (.if_icmp .lt 12, 3) := by decide +kernel
theorem dX5_in_5 : decode cX5_in 5 = .ok (.iload_n 0, 1) := by decide +kernel
theorem dX5_in_6 : decode cX5_in 6 = .ok (.iload_n 2, 1) := by decide +kernel
theorem dX5_in_7 : decode cX5_in 7 = .ok (.if_icmp .gt 7, 3) := by decide +kernel
theorem dX5_in_10 : decode cX5_in 10 = .ok (.iconst 1, 1) := by decide +kernel
theorem dX5_in_11 : decode cX5_in 11 = .ok (.goto 4, 3) := by decide +kernel
theorem dX5_in_14 : decode cX5_in 14 = .ok (.iconst 0, 1) := by decide +kernel
theorem dX5_in_15 : decode cX5_in 15 = .ok (.ireturn, 1) := by decide +kernel
theorem dX5_tells_0 : decode cX5_tells 0 = .ok (.aload_n 0, 1) := by decide +kernel
theorem dX5_tells_1 : decode cX5_tells 1 = .ok (.iconst 0, 1) := by decide +kernel
theorem dX5_tells_2 : decode cX5_tells 2 = .ok (.putfield 29, 3) := by decide +kernel
theorem dX5_tells_5 : decode cX5_tells 5 = .ok (.iload_n 1, 1) := by decide +kernel
theorem dX5_tells_6 : decode cX5_tells 6 = .ok (.ireturn, 1) := by decide +kernel
theorem dX5_fails_0 : decode cX5_fails 0 = .ok (.aload_n 0, 1) := by decide +kernel
theorem dX5_fails_1 : decode cX5_fails 1 = .ok (.iload_n 1, 1) := by decide +kernel
theorem dX5_fails_2 : decode cX5_fails 2 = .ok (.putfield 29, 3) := by decide +kernel
theorem dX5_fails_5 : decode cX5_fails 5 = .ok (.iconst 0, 1) := by decide +kernel
theorem dX5_fails_6 : decode cX5_fails 6 = .ok (.ireturn, 1) := by decide +kernel
theorem dX5_saves_0 : decode cX5_saves 0 = .ok (.aload_n 0, 1) := by decide +kernel
theorem dX5_saves_1 : decode cX5_saves 1 = .ok (.getfield 33, 3) := by decide +kernel
theorem dX5_saves_4 : decode cX5_saves 4 = .ok (.iconst 4, 1) := by decide +kernel
theorem dX5_saves_5 : decode cX5_saves 5 = .ok (.if_icmp .ne 44, 3) := by decide +kernel
theorem dX5_saves_8 : decode cX5_saves 8 = .ok (.iconst 0, 1) := by decide +kernel
theorem dX5_saves_9 : decode cX5_saves 9 = .ok (.istore_n 1, 1) := by decide +kernel
theorem dX5_saves_10 : decode cX5_saves 10 = .ok (.iload_n 1, 1) := by decide +kernel
theorem dX5_saves_11 : decode cX5_saves 11 = .ok (.sipush 513, 3) := by decide +kernel
theorem dX5_saves_14 : decode cX5_saves 14 = .ok (.if_icmp .ge 25, 3) := by decide +kernel
theorem dX5_saves_17 : decode cX5_saves 17 = .ok (.aload_n 0, 1) := by decide +kernel
theorem dX5_saves_18 : decode cX5_saves 18 = .ok (.getfield 13, 3) := by decide +kernel
theorem dX5_saves_21 : decode cX5_saves 21 = .ok (.iload_n 1, 1) := by decide +kernel
theorem dX5_saves_22 : decode cX5_saves 22 = .ok (.aload_n 0, 1) := by decide +kernel
theorem dX5_saves_23 : decode cX5_saves 23 = .ok (.getfield 13, 3) := by decide +kernel
theorem dX5_saves_26 : decode cX5_saves 26 = .ok (.iload_n 1, 1) := by decide +kernel
theorem dX5_saves_27 : decode cX5_saves 27 = .ok (.sipush 171, 3) := by decide +kernel
theorem dX5_saves_30 : decode cX5_saves 30 = .ok (.iadd, 1) := by decide +kernel
theorem dX5_saves_31 : decode cX5_saves 31 = .ok (.iaload, 1) := by decide +kernel
theorem dX5_saves_32 : decode cX5_saves 32 = .ok (.iastore, 1) := by decide +kernel
theorem dX5_saves_33 : decode cX5_saves 33 = .ok (.iinc 1 1, 3) := by decide +kernel
theorem dX5_saves_36 : decode cX5_saves 36 = .ok (.goto (-26), 3) := by decide +kernel
theorem dX5_saves_39 : decode cX5_saves 39 = .ok (.aload_n 0, 1) := by decide +kernel
theorem dX5_saves_40 : decode cX5_saves 40 = .ok (.dup, 1) := by decide +kernel
theorem dX5_saves_41 : decode cX5_saves 41 = .ok (.getfield 33, 3) := by decide +kernel
theorem dX5_saves_44 : decode cX5_saves 44 = .ok (.iconst 1, 1) := by decide +kernel
theorem dX5_saves_45 : decode cX5_saves 45 = .ok (.isub, 1) := by decide +kernel
theorem dX5_saves_46 : decode cX5_saves 46 = .ok (.putfield 33, 3) := by decide +kernel
theorem dX5_saves_49 : decode cX5_saves 49 = .ok (.iconst 0, 1) := by decide +kernel
theorem dX5_saves_50 : decode cX5_saves 50 = .ok (.istore_n 1, 1) := by decide +kernel
theorem dX5_saves_51 : decode cX5_saves 51 = .ok (.iload_n 1, 1) := by decide +kernel
theorem dX5_saves_52 : decode cX5_saves 52 = .ok (.sipush 171, 3) := by decide +kernel
theorem dX5_saves_55 : decode cX5_saves 55 = .ok (.if_icmp .ge 30, 3) := by decide +kernel
theorem dX5_saves_58 : decode cX5_saves 58 = .ok (.aload_n 0, 1) := by decide +kernel
theorem dX5_saves_59 : decode cX5_saves 59 = .ok (.getfield 13, 3) := by decide +kernel
theorem dX5_saves_62 : decode cX5_saves 62 = .ok (.sipush 171, 3) := by decide +kernel
theorem dX5_saves_65 : decode cX5_saves 65 = .ok (.aload_n 0, 1) := by decide +kernel
theorem dX5_saves_66 : decode cX5_saves 66 = .ok (.getfield 33, 3) := by decide +kernel
theorem dX5_saves_69 : decode cX5_saves 69 = .ok (.imul, 1) := by decide +kernel
theorem dX5_saves_70 : decode cX5_saves 70 = .ok (.iload_n 1, 1) := by decide +kernel
theorem dX5_saves_71 : decode cX5_saves 71 = .ok (.iadd, 1) := by decide +kernel
theorem dX5_saves_72 : decode cX5_saves 72 = .ok (.aload_n 0, 1) := by decide +kernel
theorem dX5_saves_73 : decode cX5_saves 73 = .ok (.getfield 7, 3) := by decide +kernel
theorem dX5_saves_76 : decode cX5_saves 76 = .ok (.iload_n 1, 1) := by decide +kernel
theorem dX5_saves_77 : decode cX5_saves 77 = .ok (.iaload, 1) := by decide +kernel
theorem dX5_saves_78 : decode cX5_saves 78 = .ok (.iastore, 1) := by decide +kernel
theorem dX5_saves_79 : decode cX5_saves 79 = .ok (.iinc 1 1, 3) := by decide +kernel
theorem dX5_saves_82 : decode cX5_saves 82 = .ok (.goto (-31), 3) := by decide +kernel
theorem dX5_saves_85 : decode cX5_saves 85 = .ok (.aload_n 0, 1) := by decide +kernel
theorem dX5_saves_86 : decode cX5_saves 86 = .ok (.dup, 1) := by decide +kernel
theorem dX5_saves_87 : decode cX5_saves 87 = .ok (.getfield 33, 3) := by decide +kernel
theorem dX5_saves_90 : decode cX5_saves 90 = .ok (.iconst 1, 1) := by decide +kernel
theorem dX5_saves_91 : decode cX5_saves 91 = .ok (.iadd, 1) := by decide +kernel
theorem dX5_saves_92 : decode cX5_saves 92 = .ok (.putfield 33, 3) := by decide +kernel
theorem dX5_saves_95 : decode cX5_saves 95 = .ok (.return_, 1) := by decide +kernel
set_option maxRecDepth 20000 in
theorem ggX5_undo_X5_fails : GoodIn wsX5_undo wsX5_fails := goodIn_r _ [8, 9, 14, 15, 16, 17, 18, 19, 20, 21] (by decide +kernel) (by decide +kernel)
set_option maxRecDepth 20000 in
theorem gX5_undo_X5_fails : GoodIn wsX5_undo (wsV RX5 36 RX5 yX5_fails wsX5_fails) := goodIn_app (goodIn_of _ (by decide +kernel)) ggX5_undo_X5_fails
set_option maxRecDepth 20000 in
theorem ggX5_undo_X5_tells : GoodIn wsX5_undo wsX5_tells := goodIn_r _ [13, 9, 14, 15, 16, 17, 18, 19, 20, 21] (by decide +kernel) (by decide +kernel)
set_option maxRecDepth 20000 in
theorem gX5_undo_X5_tells : GoodIn wsX5_undo (wsV RX5 40 RX5 yX5_tells wsX5_tells) := goodIn_app (goodIn_of _ (by decide +kernel)) ggX5_undo_X5_tells
theorem dX5_undo_0 : decode cX5_undo 0 = .ok (.aload_n 0, 1) := by decide +kernel
theorem dX5_undo_1 : decode cX5_undo 1 = .ok (.getfield 33, 3) := by decide +kernel
theorem dX5_undo_4 : decode cX5_undo 4 = .ok (.ifCond .ne 9, 3) := by decide +kernel
theorem dX5_undo_7 : decode cX5_undo 7 = .ok (.aload_n 0, 1) := by decide +kernel
theorem dX5_undo_8 : decode cX5_undo 8 = .ok (.iconst 1, 1) := by decide +kernel
theorem dX5_undo_9 : decode cX5_undo 9 = .ok (.invokevirtual 36, 3) := by decide +kernel
theorem dX5_undo_12 : decode cX5_undo 12 = .ok (.ireturn, 1) := by decide +kernel
theorem dX5_undo_13 : decode cX5_undo 13 = .ok (.aload_n 0, 1) := by decide +kernel
theorem dX5_undo_14 : decode cX5_undo 14 = .ok (.dup, 1) := by decide +kernel
theorem dX5_undo_15 : decode cX5_undo 15 = .ok (.getfield 33, 3) := by decide +kernel
theorem dX5_undo_18 : decode cX5_undo 18 = .ok (.iconst 1, 1) := by decide +kernel
theorem dX5_undo_19 : decode cX5_undo 19 = .ok (.isub, 1) := by decide +kernel
theorem dX5_undo_20 : decode cX5_undo 20 = .ok (.putfield 33, 3) := by decide +kernel
theorem dX5_undo_23 : decode cX5_undo 23 = .ok (.iconst 0, 1) := by decide +kernel
theorem dX5_undo_24 : decode cX5_undo 24 = .ok (.istore_n 1, 1) := by decide +kernel
theorem dX5_undo_25 : decode cX5_undo 25 = .ok (.iload_n 1, 1) := by decide +kernel
theorem dX5_undo_26 : decode cX5_undo 26 = .ok (.sipush 171, 3) := by decide +kernel
theorem dX5_undo_29 : decode cX5_undo 29 = .ok (.if_icmp .ge 30, 3) := by decide +kernel
theorem dX5_undo_32 : decode cX5_undo 32 = .ok (.aload_n 0, 1) := by decide +kernel
theorem dX5_undo_33 : decode cX5_undo 33 = .ok (.getfield 7, 3) := by decide +kernel
theorem dX5_undo_36 : decode cX5_undo 36 = .ok (.iload_n 1, 1) := by decide +kernel
theorem dX5_undo_37 : decode cX5_undo 37 = .ok (.aload_n 0, 1) := by decide +kernel
theorem dX5_undo_38 : decode cX5_undo 38 = .ok (.getfield 13, 3) := by decide +kernel
theorem dX5_undo_41 : decode cX5_undo 41 = .ok (.sipush 171, 3) := by decide +kernel
theorem dX5_undo_44 : decode cX5_undo 44 = .ok (.aload_n 0, 1) := by decide +kernel
theorem dX5_undo_45 : decode cX5_undo 45 = .ok (.getfield 33, 3) := by decide +kernel
theorem dX5_undo_48 : decode cX5_undo 48 = .ok (.imul, 1) := by decide +kernel
theorem dX5_undo_49 : decode cX5_undo 49 = .ok (.iload_n 1, 1) := by decide +kernel
theorem dX5_undo_50 : decode cX5_undo 50 = .ok (.iadd, 1) := by decide +kernel
theorem dX5_undo_51 : decode cX5_undo 51 = .ok (.iaload, 1) := by decide +kernel
theorem dX5_undo_52 : decode cX5_undo 52 = .ok (.iastore, 1) := by decide +kernel
theorem dX5_undo_53 : decode cX5_undo 53 = .ok (.iinc 1 1, 3) := by decide +kernel
theorem dX5_undo_56 : decode cX5_undo 56 = .ok (.goto (-31), 3) := by decide +kernel
theorem dX5_undo_59 : decode cX5_undo 59 = .ok (.aload_n 0, 1) := by decide +kernel
theorem dX5_undo_60 : decode cX5_undo 60 = .ok (.aload_n 0, 1) := by decide +kernel
theorem dX5_undo_61 : decode cX5_undo 61 = .ok (.getfield 33, 3) := by decide +kernel
theorem dX5_undo_64 : decode cX5_undo 64 = .ok (.invokevirtual 40, 3) := by decide +kernel
theorem dX5_undo_67 : decode cX5_undo 67 = .ok (.ireturn, 1) := by decide +kernel
theorem dX5_laysAside_0 : decode cX5_laysAside 0 = .ok (.iconst 0, 1) := by decide +kernel
theorem dX5_laysAside_1 : decode cX5_laysAside 1 = .ok (.istore_n 1, 1) := by decide +kernel
theorem dX5_laysAside_2 : decode cX5_laysAside 2 = .ok (.iload_n 1, 1) := by decide +kernel
theorem dX5_laysAside_3 : decode cX5_laysAside 3 = .ok (.sipush 171, 3) := by decide +kernel
theorem dX5_laysAside_6 : decode cX5_laysAside 6 = .ok (.if_icmp .ge 21, 3) := by decide +kernel
theorem dX5_laysAside_9 : decode cX5_laysAside 9 = .ok (.aload_n 0, 1) := by decide +kernel
theorem dX5_laysAside_10 : decode cX5_laysAside 10 = .ok (.getfield 16, 3) := by decide +kernel
theorem dX5_laysAside_13 : decode cX5_laysAside 13 = .ok (.iload_n 1, 1) := by decide +kernel
theorem dX5_laysAside_14 : decode cX5_laysAside 14 = .ok (.aload_n 0, 1) := by decide +kernel
theorem dX5_laysAside_15 : decode cX5_laysAside 15 = .ok (.getfield 7, 3) := by decide +kernel
theorem dX5_laysAside_18 : decode cX5_laysAside 18 = .ok (.iload_n 1, 1) := by decide +kernel
theorem dX5_laysAside_19 : decode cX5_laysAside 19 = .ok (.iaload, 1) := by decide +kernel
theorem dX5_laysAside_20 : decode cX5_laysAside 20 = .ok (.iastore, 1) := by decide +kernel
theorem dX5_laysAside_21 : decode cX5_laysAside 21 = .ok (.iinc 1 1, 3) := by decide +kernel
theorem dX5_laysAside_24 : decode cX5_laysAside 24 = .ok (.goto (-22), 3) := by decide +kernel
theorem dX5_laysAside_27 : decode cX5_laysAside 27 = .ok (.return_, 1) := by decide +kernel
theorem dX5_takesBack_0 : decode cX5_takesBack 0 = .ok (.iconst 0, 1) := by decide +kernel
theorem dX5_takesBack_1 : decode cX5_takesBack 1 = .ok (.istore_n 1, 1) := by decide +kernel
theorem dX5_takesBack_2 : decode cX5_takesBack 2 = .ok (.iload_n 1, 1) := by decide +kernel
theorem dX5_takesBack_3 : decode cX5_takesBack 3 = .ok (.sipush 171, 3) := by decide +kernel
theorem dX5_takesBack_6 : decode cX5_takesBack 6 = .ok (.if_icmp .ge 21, 3) := by decide +kernel
theorem dX5_takesBack_9 : decode cX5_takesBack 9 = .ok (.aload_n 0, 1) := by decide +kernel
theorem dX5_takesBack_10 : decode cX5_takesBack 10 = .ok (.getfield 7, 3) := by decide +kernel
theorem dX5_takesBack_13 : decode cX5_takesBack 13 = .ok (.iload_n 1, 1) := by decide +kernel
theorem dX5_takesBack_14 : decode cX5_takesBack 14 = .ok (.aload_n 0, 1) := by decide +kernel
theorem dX5_takesBack_15 : decode cX5_takesBack 15 = .ok (.getfield 16, 3) := by decide +kernel
theorem dX5_takesBack_18 : decode cX5_takesBack 18 = .ok (.iload_n 1, 1) := by decide +kernel
theorem dX5_takesBack_19 : decode cX5_takesBack 19 = .ok (.iaload, 1) := by decide +kernel
theorem dX5_takesBack_20 : decode cX5_takesBack 20 = .ok (.iastore, 1) := by decide +kernel
theorem dX5_takesBack_21 : decode cX5_takesBack 21 = .ok (.iinc 1 1, 3) := by decide +kernel
theorem dX5_takesBack_24 : decode cX5_takesBack 24 = .ok (.goto (-22), 3) := by decide +kernel
theorem dX5_takesBack_27 : decode cX5_takesBack 27 = .ok (.return_, 1) := by decide +kernel
set_option maxRecDepth 20000 in
theorem ggX5_begins_X5_in : GoodIn wsX5_begins wsX5_in := goodIn_r _ [5] (by decide +kernel) (by decide +kernel)
set_option maxRecDepth 20000 in
theorem gX5_begins_X5_in : GoodIn wsX5_begins (va_wsS RX5 43 yX5_in wsX5_in) := goodIn_app (goodIn_of _ (by decide +kernel)) ggX5_begins_X5_in
theorem dX5_begins_0 : decode cX5_begins 0 = .ok (.iconst 0, 1) := by decide +kernel
theorem dX5_begins_1 : decode cX5_begins 1 = .ok (.istore_n 1, 1) := by decide +kernel
theorem dX5_begins_2 : decode cX5_begins 2 = .ok (.iload_n 1, 1) := by decide +kernel
theorem dX5_begins_3 : decode cX5_begins 3 = .ok (.sipush 171, 3) := by decide +kernel
theorem dX5_begins_6 : decode cX5_begins 6 = .ok (.if_icmp .ge 35, 3) := by decide +kernel
theorem dX5_begins_9 : decode cX5_begins 9 = .ok (.aload_n 0, 1) := by decide +kernel
theorem dX5_begins_10 : decode cX5_begins 10 = .ok (.getfield 7, 3) := by decide +kernel
theorem dX5_begins_13 : decode cX5_begins 13 = .ok (.iload_n 1, 1) := by decide +kernel
theorem dX5_begins_14 : decode cX5_begins 14 = .ok (.iload_n 1, 1) := by decide +kernel
theorem dX5_begins_15 : decode cX5_begins 15 = .ok (.iconst 4, 1) := by decide +kernel
theorem dX5_begins_16 : decode cX5_begins 16 = .ok (.bipush 7, 2) := by decide +kernel
theorem dX5_begins_18 : decode cX5_begins 18 = .ok (.invokestatic 43, 3) := by decide +kernel
theorem dX5_begins_21 : decode cX5_begins 21 = .ok (.ifCond .eq 12, 3) := by decide +kernel
theorem dX5_begins_24 : decode cX5_begins 24 = .ok (.aload_n 0, 1) := by decide +kernel
theorem dX5_begins_25 : decode cX5_begins 25 = .ok (.getfield 7, 3) := by decide +kernel
theorem dX5_begins_28 : decode cX5_begins 28 = .ok (.iload_n 1, 1) := by decide +kernel
theorem dX5_begins_29 : decode cX5_begins 29 = .ok (.iaload, 1) := by decide +kernel
theorem dX5_begins_30 : decode cX5_begins 30 = .ok (.goto 4, 3) := by decide +kernel
theorem dX5_begins_33 : decode cX5_begins 33 = .ok (.iconst 0, 1) := by decide +kernel
theorem dX5_begins_34 : decode cX5_begins 34 = .ok (.iastore, 1) := by decide +kernel
theorem dX5_begins_35 : decode cX5_begins 35 = .ok (.iinc 1 1, 3) := by decide +kernel
theorem dX5_begins_38 : decode cX5_begins 38 = .ok (.goto (-36), 3) := by decide +kernel
theorem dX5_begins_41 : decode cX5_begins 41 = .ok (.aload_n 0, 1) := by decide +kernel
theorem dX5_begins_42 : decode cX5_begins 42 = .ok (.getfield 7, 3) := by decide +kernel
theorem dX5_begins_45 : decode cX5_begins 45 = .ok (.bipush 9, 2) := by decide +kernel
theorem dX5_begins_47 : decode cX5_begins 47 = .ok (.iconst (-1), 1) := by decide +kernel
theorem dX5_begins_48 : decode cX5_begins 48 = .ok (.iastore, 1) := by decide +kernel
theorem dX5_begins_49 : decode cX5_begins 49 = .ok (.return_, 1) := by decide +kernel
theorem dX5_cell0_0 : decode cX5_cell0 0 = .ok (.aload_n 0, 1) := by decide +kernel
theorem dX5_cell0_1 : decode cX5_cell0 1 = .ok (.getfield 7, 3) := by decide +kernel
theorem dX5_cell0_4 : decode cX5_cell0 4 = .ok (.bipush 11, 2) := by decide +kernel
theorem dX5_cell0_6 : decode cX5_cell0 6 = .ok (.aload_n 0, 1) := by decide +kernel
theorem dX5_cell0_7 : decode cX5_cell0 7 = .ok (.getfield 7, 3) := by decide +kernel
theorem dX5_cell0_10 : decode cX5_cell0 10 = .ok (.iconst 0, 1) := by decide +kernel
theorem dX5_cell0_11 : decode cX5_cell0 11 = .ok (.iaload, 1) := by decide +kernel
theorem dX5_cell0_12 : decode cX5_cell0 12 = .ok (.iadd, 1) := by decide +kernel
theorem dX5_cell0_13 : decode cX5_cell0 13 = .ok (.iload_n 1, 1) := by decide +kernel
theorem dX5_cell0_14 : decode cX5_cell0 14 = .ok (.iastore, 1) := by decide +kernel
theorem dX5_cell0_15 : decode cX5_cell0 15 = .ok (.aload_n 0, 1) := by decide +kernel
theorem dX5_cell0_16 : decode cX5_cell0 16 = .ok (.getfield 7, 3) := by decide +kernel
theorem dX5_cell0_19 : decode cX5_cell0 19 = .ok (.bipush 41, 2) := by decide +kernel
theorem dX5_cell0_21 : decode cX5_cell0 21 = .ok (.aload_n 0, 1) := by decide +kernel
theorem dX5_cell0_22 : decode cX5_cell0 22 = .ok (.getfield 7, 3) := by decide +kernel
theorem dX5_cell0_25 : decode cX5_cell0 25 = .ok (.iconst 0, 1) := by decide +kernel
theorem dX5_cell0_26 : decode cX5_cell0 26 = .ok (.iaload, 1) := by decide +kernel
theorem dX5_cell0_27 : decode cX5_cell0 27 = .ok (.iadd, 1) := by decide +kernel
theorem dX5_cell0_28 : decode cX5_cell0 28 = .ok (.iload_n 2, 1) := by decide +kernel
theorem dX5_cell0_29 : decode cX5_cell0 29 = .ok (.iastore, 1) := by decide +kernel
theorem dX5_cell0_30 : decode cX5_cell0 30 = .ok (.aload_n 0, 1) := by decide +kernel
theorem dX5_cell0_31 : decode cX5_cell0 31 = .ok (.getfield 7, 3) := by decide +kernel
theorem dX5_cell0_34 : decode cX5_cell0 34 = .ok (.iconst 0, 1) := by decide +kernel
theorem dX5_cell0_35 : decode cX5_cell0 35 = .ok (.dup2, 1) := by decide +kernel
theorem dX5_cell0_36 : decode cX5_cell0 36 = .ok (.iaload, 1) := by decide +kernel
theorem dX5_cell0_37 : decode cX5_cell0 37 = .ok (.iconst 1, 1) := by decide +kernel
theorem dX5_cell0_38 : decode cX5_cell0 38 = .ok (.iadd, 1) := by decide +kernel
theorem dX5_cell0_39 : decode cX5_cell0 39 = .ok (.iastore, 1) := by decide +kernel
theorem dX5_cell0_40 : decode cX5_cell0 40 = .ok (.aload_n 0, 1) := by decide +kernel
theorem dX5_cell0_41 : decode cX5_cell0 41 = .ok (.getfield 7, 3) := by decide +kernel
theorem dX5_cell0_44 : decode cX5_cell0 44 = .ok (.iconst 1, 1) := by decide +kernel
theorem dX5_cell0_45 : decode cX5_cell0 45 = .ok (.dup2, 1) := by decide +kernel
theorem dX5_cell0_46 : decode cX5_cell0 46 = .ok (.iaload, 1) := by decide +kernel
theorem dX5_cell0_47 : decode cX5_cell0 47 = .ok (.iload_n 2, 1) := by decide +kernel
theorem dX5_cell0_48 : decode cX5_cell0 48 = .ok (.iconst 2, 1) := by decide +kernel
theorem dX5_cell0_49 : decode cX5_cell0 49 = .ok (.if_icmp .ne 7, 3) := by decide +kernel
theorem dX5_cell0_52 : decode cX5_cell0 52 = .ok (.iconst 1, 1) := by decide +kernel
theorem dX5_cell0_53 : decode cX5_cell0 53 = .ok (.goto 4, 3) := by decide +kernel
theorem dX5_cell0_56 : decode cX5_cell0 56 = .ok (.iconst 0, 1) := by decide +kernel
theorem dX5_cell0_57 : decode cX5_cell0 57 = .ok (.iadd, 1) := by decide +kernel
theorem dX5_cell0_58 : decode cX5_cell0 58 = .ok (.iastore, 1) := by decide +kernel
theorem dX5_cell0_59 : decode cX5_cell0 59 = .ok (.return_, 1) := by decide +kernel
set_option maxRecDepth 20000 in
theorem ggX5_isCell_X5_in : GoodIn wsX5_isCell wsX5_in := goodIn_r _ [5] (by decide +kernel) (by decide +kernel)
set_option maxRecDepth 20000 in
theorem gX5_isCell_X5_in : GoodIn wsX5_isCell (va_wsS RX5 43 yX5_in wsX5_in) := goodIn_app (goodIn_of _ (by decide +kernel)) ggX5_isCell_X5_in
theorem dX5_isCell_0 : decode cX5_isCell 0 = .ok (.iload_n 1, 1) := by decide +kernel
theorem dX5_isCell_1 : decode cX5_isCell 1 = .ok (.iconst 0, 1) := by decide +kernel
theorem dX5_isCell_2 : decode cX5_isCell 2 = .ok (.aload_n 0, 1) := by decide +kernel
theorem dX5_isCell_3 : decode cX5_isCell 3 = .ok (.getfield 7, 3) := by decide +kernel
theorem dX5_isCell_6 : decode cX5_isCell 6 = .ok (.iconst 0, 1) := by decide +kernel
theorem dX5_isCell_7 : decode cX5_isCell 7 = .ok (.iaload, 1) := by decide +kernel
theorem dX5_isCell_8 : decode cX5_isCell 8 = .ok (.iconst 1, 1) := by decide +kernel
theorem dX5_isCell_9 : decode cX5_isCell 9 = .ok (.isub, 1) := by decide +kernel
theorem dX5_isCell_10 : decode cX5_isCell 10 = .ok (.invokestatic 43, 3) := by decide +kernel
theorem dX5_isCell_13 : decode cX5_isCell 13 = .ok (.ireturn, 1) := by decide +kernel
set_option maxRecDepth 20000 in
theorem ggX5_isBlock_X5_in : GoodIn wsX5_isBlock wsX5_in := goodIn_r _ [5] (by decide +kernel) (by decide +kernel)
set_option maxRecDepth 20000 in
theorem gX5_isBlock_X5_in : GoodIn wsX5_isBlock (va_wsS RX5 43 yX5_in wsX5_in) := goodIn_app (goodIn_of _ (by decide +kernel)) ggX5_isBlock_X5_in
theorem dX5_isBlock_0 : decode cX5_isBlock 0 = .ok (.iload_n 1, 1) := by decide +kernel
theorem dX5_isBlock_1 : decode cX5_isBlock 1 = .ok (.iconst 0, 1) := by decide +kernel
theorem dX5_isBlock_2 : decode cX5_isBlock 2 = .ok (.aload_n 0, 1) := by decide +kernel
theorem dX5_isBlock_3 : decode cX5_isBlock 3 = .ok (.getfield 7, 3) := by decide +kernel
theorem dX5_isBlock_6 : decode cX5_isBlock 6 = .ok (.iconst 1, 1) := by decide +kernel
theorem dX5_isBlock_7 : decode cX5_isBlock 7 = .ok (.iaload, 1) := by decide +kernel
theorem dX5_isBlock_8 : decode cX5_isBlock 8 = .ok (.iconst 1, 1) := by decide +kernel
theorem dX5_isBlock_9 : decode cX5_isBlock 9 = .ok (.isub, 1) := by decide +kernel
theorem dX5_isBlock_10 : decode cX5_isBlock 10 = .ok (.invokestatic 43, 3) := by decide +kernel
theorem dX5_isBlock_13 : decode cX5_isBlock 13 = .ok (.ireturn, 1) := by decide +kernel
set_option maxRecDepth 20000 in
theorem ggX5_isTrain_X5_in : GoodIn wsX5_isTrain wsX5_in := goodIn_r _ [5] (by decide +kernel) (by decide +kernel)
set_option maxRecDepth 20000 in
theorem gX5_isTrain_X5_in : GoodIn wsX5_isTrain (va_wsS RX5 43 yX5_in wsX5_in) := goodIn_app (goodIn_of _ (by decide +kernel)) ggX5_isTrain_X5_in
theorem dX5_isTrain_0 : decode cX5_isTrain 0 = .ok (.iload_n 1, 1) := by decide +kernel
theorem dX5_isTrain_1 : decode cX5_isTrain 1 = .ok (.iconst 0, 1) := by decide +kernel
theorem dX5_isTrain_2 : decode cX5_isTrain 2 = .ok (.aload_n 0, 1) := by decide +kernel
theorem dX5_isTrain_3 : decode cX5_isTrain 3 = .ok (.getfield 7, 3) := by decide +kernel
theorem dX5_isTrain_6 : decode cX5_isTrain 6 = .ok (.iconst 2, 1) := by decide +kernel
theorem dX5_isTrain_7 : decode cX5_isTrain 7 = .ok (.iaload, 1) := by decide +kernel
theorem dX5_isTrain_8 : decode cX5_isTrain 8 = .ok (.iconst 1, 1) := by decide +kernel
theorem dX5_isTrain_9 : decode cX5_isTrain 9 = .ok (.isub, 1) := by decide +kernel
theorem dX5_isTrain_10 : decode cX5_isTrain 10 = .ok (.invokestatic 43, 3) := by decide +kernel
theorem dX5_isTrain_13 : decode cX5_isTrain 13 = .ok (.ireturn, 1) := by decide +kernel
theorem dX5_after_0 : decode cX5_after 0 = .ok (.iload_n 1, 1) := by decide +kernel
theorem dX5_after_1 : decode cX5_after 1 = .ok (.iconst 1, 1) := by decide +kernel
theorem dX5_after_2 : decode cX5_after 2 = .ok (.iadd, 1) := by decide +kernel
theorem dX5_after_3 : decode cX5_after 3 = .ok (.aload_n 0, 1) := by decide +kernel
theorem dX5_after_4 : decode cX5_after 4 = .ok (.getfield 7, 3) := by decide +kernel
theorem dX5_after_7 : decode cX5_after 7 = .ok (.iconst 0, 1) := by decide +kernel
theorem dX5_after_8 : decode cX5_after 8 = .ok (.iaload, 1) := by decide +kernel
theorem dX5_after_9 : decode cX5_after 9 = .ok (.if_icmp .ne 7, 3) := by decide +kernel
theorem dX5_after_12 : decode cX5_after 12 = .ok (.iconst 0, 1) := by decide +kernel
theorem dX5_after_13 : decode cX5_after 13 = .ok (.goto 6, 3) := by decide +kernel
theorem dX5_after_16 : decode cX5_after 16 = .ok (.iload_n 1, 1) := by decide +kernel
theorem dX5_after_17 : decode cX5_after 17 = .ok (.iconst 1, 1) := by decide +kernel
theorem dX5_after_18 : decode cX5_after 18 = .ok (.iadd, 1) := by decide +kernel
theorem dX5_after_19 : decode cX5_after 19 = .ok (.ireturn, 1) := by decide +kernel
theorem dX5_blockAt_0 : decode cX5_blockAt 0 = .ok (.iconst 0, 1) := by decide +kernel
theorem dX5_blockAt_1 : decode cX5_blockAt 1 = .ok (.istore_n 2, 1) := by decide +kernel
theorem dX5_blockAt_2 : decode cX5_blockAt 2 = .ok (.iconst 0, 1) := by decide +kernel
theorem dX5_blockAt_3 : decode cX5_blockAt 3 = .ok (.istore_n 3, 1) := by decide +kernel
theorem dX5_blockAt_4 : decode cX5_blockAt 4 = .ok (.iload_n 3, 1) := by decide +kernel
theorem dX5_blockAt_5 : decode cX5_blockAt 5 = .ok (.iload_n 1, 1) := by decide +kernel
theorem dX5_blockAt_6 : decode cX5_blockAt 6 = .ok (.if_icmp .ge 30, 3) := by decide +kernel
theorem dX5_blockAt_9 : decode cX5_blockAt 9 = .ok (.iload_n 2, 1) := by decide +kernel
theorem dX5_blockAt_10 : decode cX5_blockAt 10 = .ok (.aload_n 0, 1) := by decide +kernel
theorem dX5_blockAt_11 : decode cX5_blockAt 11 = .ok (.getfield 7, 3) := by decide +kernel
theorem dX5_blockAt_14 : decode cX5_blockAt 14 = .ok (.bipush 41, 2) := by decide +kernel
theorem dX5_blockAt_16 : decode cX5_blockAt 16 = .ok (.iload_n 3, 1) := by decide +kernel
theorem dX5_blockAt_17 : decode cX5_blockAt 17 = .ok (.iadd, 1) := by decide +kernel
theorem dX5_blockAt_18 : decode cX5_blockAt 18 = .ok (.iaload, 1) := by decide +kernel
theorem dX5_blockAt_19 : decode cX5_blockAt 19 = .ok (.iconst 2, 1) := by decide +kernel
theorem dX5_blockAt_20 : decode cX5_blockAt 20 = .ok (.if_icmp .ne 7, 3) := by decide +kernel
theorem dX5_blockAt_23 : decode cX5_blockAt 23 = .ok (.iconst 1, 1) := by decide +kernel
theorem dX5_blockAt_24 : decode cX5_blockAt 24 = .ok (.goto 4, 3) := by decide +kernel
theorem dX5_blockAt_27 : decode cX5_blockAt 27 = .ok (.iconst 0, 1) := by decide +kernel
theorem dX5_blockAt_28 : decode cX5_blockAt 28 = .ok (.iadd, 1) := by decide +kernel
theorem dX5_blockAt_29 : decode cX5_blockAt 29 = .ok (.istore_n 2, 1) := by decide +kernel
theorem dX5_blockAt_30 : decode cX5_blockAt 30 = .ok (.iinc 3 1, 3) := by decide +kernel
theorem dX5_blockAt_33 : decode cX5_blockAt 33 = .ok (.goto (-29), 3) := by decide +kernel
theorem dX5_blockAt_36 : decode cX5_blockAt 36 = .ok (.iload_n 2, 1) := by decide +kernel
theorem dX5_blockAt_37 : decode cX5_blockAt 37 = .ok (.aload_n 0, 1) := by decide +kernel
theorem dX5_blockAt_38 : decode cX5_blockAt 38 = .ok (.getfield 7, 3) := by decide +kernel
theorem dX5_blockAt_41 : decode cX5_blockAt 41 = .ok (.iconst 1, 1) := by decide +kernel
theorem dX5_blockAt_42 : decode cX5_blockAt 42 = .ok (.iaload, 1) := by decide +kernel
theorem dX5_blockAt_43 : decode cX5_blockAt 43 = .ok (.if_icmp .ne 7, 3) := by decide +kernel
theorem dX5_blockAt_46 : decode cX5_blockAt 46 = .ok (.iconst 0, 1) := by decide +kernel
theorem dX5_blockAt_47 : decode cX5_blockAt 47 = .ok (.goto 4, 3) := by decide +kernel
theorem dX5_blockAt_50 : decode cX5_blockAt 50 = .ok (.iload_n 2, 1) := by decide +kernel
theorem dX5_blockAt_51 : decode cX5_blockAt 51 = .ok (.ireturn, 1) := by decide +kernel
theorem dX5_brakeOf_0 : decode cX5_brakeOf 0 = .ok (.iconst 0, 1) := by decide +kernel
theorem dX5_brakeOf_1 : decode cX5_brakeOf 1 = .ok (.istore_n 2, 1) := by decide +kernel
theorem dX5_brakeOf_2 : decode cX5_brakeOf 2 = .ok (.iload_n 1, 1) := by decide +kernel
theorem dX5_brakeOf_3 : decode cX5_brakeOf 3 = .ok (.istore_n 3, 1) := by decide +kernel
theorem dX5_brakeOf_4 : decode cX5_brakeOf 4 = .ok (.aload_n 0, 1) := by decide +kernel
theorem dX5_brakeOf_5 : decode cX5_brakeOf 5 = .ok (.getfield 7, 3) := by decide +kernel
theorem dX5_brakeOf_8 : decode cX5_brakeOf 8 = .ok (.bipush 41, 2) := by decide +kernel
theorem dX5_brakeOf_10 : decode cX5_brakeOf 10 = .ok (.iload_n 2, 1) := by decide +kernel
theorem dX5_brakeOf_11 : decode cX5_brakeOf 11 = .ok (.iadd, 1) := by decide +kernel
theorem dX5_brakeOf_12 : decode cX5_brakeOf 12 = .ok (.iaload, 1) := by decide +kernel
theorem dX5_brakeOf_13 : decode cX5_brakeOf 13 = .ok (.iconst 2, 1) := by decide +kernel
theorem dX5_brakeOf_14 : decode cX5_brakeOf 14 = .ok (.if_icmp .ne 7, 3) := by decide +kernel
theorem dX5_brakeOf_17 : decode cX5_brakeOf 17 = .ok (.iload_n 3, 1) := by decide +kernel
theorem dX5_brakeOf_18 : decode cX5_brakeOf 18 = .ok (.ifCond .le 30, 3) := by decide +kernel
theorem dX5_brakeOf_21 : decode cX5_brakeOf 21 = .ok (.iload_n 3, 1) := by decide +kernel
theorem dX5_brakeOf_22 : decode cX5_brakeOf 22 = .ok (.aload_n 0, 1) := by decide +kernel
theorem dX5_brakeOf_23 : decode cX5_brakeOf 23 = .ok (.getfield 7, 3) := by decide +kernel
theorem dX5_brakeOf_26 : decode cX5_brakeOf 26 = .ok (.bipush 41, 2) := by decide +kernel
theorem dX5_brakeOf_28 : decode cX5_brakeOf 28 = .ok (.iload_n 2, 1) := by decide +kernel
theorem dX5_brakeOf_29 : decode cX5_brakeOf 29 = .ok (.iadd, 1) := by decide +kernel
theorem dX5_brakeOf_30 : decode cX5_brakeOf 30 = .ok (.iaload, 1) := by decide +kernel
theorem dX5_brakeOf_31 : decode cX5_brakeOf 31 = .ok (.iconst 2, 1) := by decide +kernel
theorem dX5_brakeOf_32 : decode cX5_brakeOf 32 = .ok (.if_icmp .ne 7, 3) := by decide +kernel
theorem dX5_brakeOf_35 : decode cX5_brakeOf 35 = .ok (.iconst 1, 1) := by decide +kernel
theorem dX5_brakeOf_36 : decode cX5_brakeOf 36 = .ok (.goto 4, 3) := by decide +kernel
theorem dX5_brakeOf_39 : decode cX5_brakeOf 39 = .ok (.iconst 0, 1) := by decide +kernel
theorem dX5_brakeOf_40 : decode cX5_brakeOf 40 = .ok (.isub, 1) := by decide +kernel
theorem dX5_brakeOf_41 : decode cX5_brakeOf 41 = .ok (.istore_n 3, 1) := by decide +kernel
theorem dX5_brakeOf_42 : decode cX5_brakeOf 42 = .ok (.iinc 2 1, 3) := by decide +kernel
theorem dX5_brakeOf_45 : decode cX5_brakeOf 45 = .ok (.goto (-41), 3) := by decide +kernel
theorem dX5_brakeOf_48 : decode cX5_brakeOf 48 = .ok (.iload_n 2, 1) := by decide +kernel
theorem dX5_brakeOf_49 : decode cX5_brakeOf 49 = .ok (.ireturn, 1) := by decide +kernel
theorem dX5_nextBlock_0 : decode cX5_nextBlock 0 = .ok (.iload_n 1, 1) := by decide +kernel
theorem dX5_nextBlock_1 : decode cX5_nextBlock 1 = .ok (.iconst 1, 1) := by decide +kernel
theorem dX5_nextBlock_2 : decode cX5_nextBlock 2 = .ok (.iadd, 1) := by decide +kernel
theorem dX5_nextBlock_3 : decode cX5_nextBlock 3 = .ok (.aload_n 0, 1) := by decide +kernel
theorem dX5_nextBlock_4 : decode cX5_nextBlock 4 = .ok (.getfield 7, 3) := by decide +kernel
theorem dX5_nextBlock_7 : decode cX5_nextBlock 7 = .ok (.iconst 1, 1) := by decide +kernel
theorem dX5_nextBlock_8 : decode cX5_nextBlock 8 = .ok (.iaload, 1) := by decide +kernel
theorem dX5_nextBlock_9 : decode cX5_nextBlock 9 = .ok (.if_icmp .ne 7, 3) := by decide +kernel
theorem dX5_nextBlock_12 : decode cX5_nextBlock 12 = .ok (.iconst 0, 1) := by decide +kernel
theorem dX5_nextBlock_13 : decode cX5_nextBlock 13 = .ok (.goto 6, 3) := by decide +kernel
theorem dX5_nextBlock_16 : decode cX5_nextBlock 16 = .ok (.iload_n 1, 1) := by decide +kernel
theorem dX5_nextBlock_17 : decode cX5_nextBlock 17 = .ok (.iconst 1, 1) := by decide +kernel
theorem dX5_nextBlock_18 : decode cX5_nextBlock 18 = .ok (.iadd, 1) := by decide +kernel
theorem dX5_nextBlock_19 : decode cX5_nextBlock 19 = .ok (.ireturn, 1) := by decide +kernel
theorem dX5_blockAhead_0 : decode cX5_blockAhead 0 = .ok (.iload_n 1, 1) := by decide +kernel
theorem dX5_blockAhead_1 : decode cX5_blockAhead 1 = .ok (.ifCond .ne 14, 3) := by decide +kernel
theorem dX5_blockAhead_4 : decode cX5_blockAhead 4 = .ok (.aload_n 0, 1) := by decide +kernel
theorem dX5_blockAhead_5 : decode cX5_blockAhead 5 = .ok (.getfield 7, 3) := by decide +kernel
theorem dX5_blockAhead_8 : decode cX5_blockAhead 8 = .ok (.iconst 1, 1) := by decide +kernel
theorem dX5_blockAhead_9 : decode cX5_blockAhead 9 = .ok (.iaload, 1) := by decide +kernel
theorem dX5_blockAhead_10 : decode cX5_blockAhead 10 = .ok (.iconst 1, 1) := by decide +kernel
theorem dX5_blockAhead_11 : decode cX5_blockAhead 11 = .ok (.isub, 1) := by decide +kernel
theorem dX5_blockAhead_12 : decode cX5_blockAhead 12 = .ok (.goto 6, 3) := by decide +kernel
theorem dX5_blockAhead_15 : decode cX5_blockAhead 15 = .ok (.iload_n 1, 1) := by decide +kernel
theorem dX5_blockAhead_16 : decode cX5_blockAhead 16 = .ok (.iconst 1, 1) := by decide +kernel
theorem dX5_blockAhead_17 : decode cX5_blockAhead 17 = .ok (.isub, 1) := by decide +kernel
theorem dX5_blockAhead_18 : decode cX5_blockAhead 18 = .ok (.ireturn, 1) := by decide +kernel
theorem dX5_of_0 : decode cX5_of 0 = .ok (.aload_n 0, 1) := by decide +kernel
theorem dX5_of_1 : decode cX5_of 1 = .ok (.getfield 7, 3) := by decide +kernel
theorem dX5_of_4 : decode cX5_of 4 = .ok (.bipush 79, 2) := by decide +kernel
theorem dX5_of_6 : decode cX5_of 6 = .ok (.bipush 8, 2) := by decide +kernel
theorem dX5_of_8 : decode cX5_of 8 = .ok (.iload_n 1, 1) := by decide +kernel
theorem dX5_of_9 : decode cX5_of 9 = .ok (.imul, 1) := by decide +kernel
theorem dX5_of_10 : decode cX5_of 10 = .ok (.iadd, 1) := by decide +kernel
theorem dX5_of_11 : decode cX5_of 11 = .ok (.iload_n 2, 1) := by decide +kernel
theorem dX5_of_12 : decode cX5_of 12 = .ok (.iadd, 1) := by decide +kernel
theorem dX5_of_13 : decode cX5_of 13 = .ok (.iaload, 1) := by decide +kernel
theorem dX5_of_14 : decode cX5_of 14 = .ok (.ireturn, 1) := by decide +kernel
theorem dX5_put_0 : decode cX5_put 0 = .ok (.aload_n 0, 1) := by decide +kernel
theorem dX5_put_1 : decode cX5_put 1 = .ok (.getfield 7, 3) := by decide +kernel
theorem dX5_put_4 : decode cX5_put 4 = .ok (.bipush 79, 2) := by decide +kernel
theorem dX5_put_6 : decode cX5_put 6 = .ok (.bipush 8, 2) := by decide +kernel
theorem dX5_put_8 : decode cX5_put 8 = .ok (.iload_n 1, 1) := by decide +kernel
theorem dX5_put_9 : decode cX5_put 9 = .ok (.imul, 1) := by decide +kernel
theorem dX5_put_10 : decode cX5_put 10 = .ok (.iadd, 1) := by decide +kernel
theorem dX5_put_11 : decode cX5_put 11 = .ok (.iload_n 2, 1) := by decide +kernel
theorem dX5_put_12 : decode cX5_put 12 = .ok (.iadd, 1) := by decide +kernel
theorem dX5_put_13 : decode cX5_put 13 = .ok (.iload_n 3, 1) := by decide +kernel
theorem dX5_put_14 : decode cX5_put 14 = .ok (.iastore, 1) := by decide +kernel
theorem dX5_put_15 : decode cX5_put 15 = .ok (.return_, 1) := by decide +kernel
set_option maxRecDepth 20000 in
theorem ggX5_trainIn_X5_of : GoodIn wsX5_trainIn wsX5_of := goodIn_r _ [6, 1, 11, 12, 13, 14, 15, 16, 17, 18] (by decide +kernel) (by decide +kernel)
set_option maxRecDepth 20000 in
theorem gX5_trainIn_X5_of : GoodIn wsX5_trainIn (wsV RX5 47 RX5 yX5_of wsX5_of) := goodIn_app (goodIn_of _ (by decide +kernel)) ggX5_trainIn_X5_of
set_option maxRecDepth 20000 in
theorem ggX5_trainIn_X5_blockAt : GoodIn wsX5_trainIn wsX5_blockAt := goodIn_r _ [10, 1, 11, 12, 13, 14, 15, 16, 17, 18] (by decide +kernel) (by decide +kernel)
set_option maxRecDepth 20000 in
theorem gX5_trainIn_X5_blockAt : GoodIn wsX5_trainIn (wsV RX5 51 RX5 yX5_blockAt wsX5_blockAt) := goodIn_app (goodIn_of _ (by decide +kernel)) ggX5_trainIn_X5_blockAt
theorem dX5_trainIn_0 : decode cX5_trainIn 0 = .ok (.iconst (-1), 1) := by decide +kernel
theorem dX5_trainIn_1 : decode cX5_trainIn 1 = .ok (.istore_n 2, 1) := by decide +kernel
theorem dX5_trainIn_2 : decode cX5_trainIn 2 = .ok (.iconst 0, 1) := by decide +kernel
theorem dX5_trainIn_3 : decode cX5_trainIn 3 = .ok (.istore_n 3, 1) := by decide +kernel
theorem dX5_trainIn_4 : decode cX5_trainIn 4 = .ok (.iload_n 3, 1) := by decide +kernel
theorem dX5_trainIn_5 : decode cX5_trainIn 5 = .ok (.aload_n 0, 1) := by decide +kernel
theorem dX5_trainIn_6 : decode cX5_trainIn 6 = .ok (.getfield 7, 3) := by decide +kernel
theorem dX5_trainIn_9 : decode cX5_trainIn 9 = .ok (.iconst 2, 1) := by decide +kernel
theorem dX5_trainIn_10 : decode cX5_trainIn 10 = .ok (.iaload, 1) := by decide +kernel
theorem dX5_trainIn_11 : decode cX5_trainIn 11 = .ok (.if_icmp .ge 34, 3) := by decide +kernel
theorem dX5_trainIn_14 : decode cX5_trainIn 14 = .ok (.iload_n 2, 1) := by decide +kernel
theorem dX5_trainIn_15 : decode cX5_trainIn 15 = .ok (.iconst (-1), 1) := by decide +kernel
theorem dX5_trainIn_16 : decode cX5_trainIn 16 = .ok (.if_icmp .ne 21, 3) := by decide +kernel
theorem dX5_trainIn_19 : decode cX5_trainIn 19 = .ok (.aload_n 0, 1) := by decide +kernel
theorem dX5_trainIn_20 : decode cX5_trainIn 20 = .ok (.aload_n 0, 1) := by decide +kernel
theorem dX5_trainIn_21 : decode cX5_trainIn 21 = .ok (.iload_n 3, 1) := by decide +kernel
theorem dX5_trainIn_22 : decode cX5_trainIn 22 = .ok (.iconst 0, 1) := by decide +kernel
theorem dX5_trainIn_23 : decode cX5_trainIn 23 = .ok (.invokevirtual 47, 3) := by decide +kernel
theorem dX5_trainIn_26 : decode cX5_trainIn 26 = .ok (.invokevirtual 51, 3) := by decide +kernel
theorem dX5_trainIn_29 : decode cX5_trainIn 29 = .ok (.iload_n 1, 1) := by decide +kernel
theorem dX5_trainIn_30 : decode cX5_trainIn 30 = .ok (.if_icmp .ne 7, 3) := by decide +kernel
theorem dX5_trainIn_33 : decode cX5_trainIn 33 = .ok (.iload_n 3, 1) := by decide +kernel
theorem dX5_trainIn_34 : decode cX5_trainIn 34 = .ok (.goto 4, 3) := by decide +kernel
theorem dX5_trainIn_37 : decode cX5_trainIn 37 = .ok (.iload_n 2, 1) := by decide +kernel
theorem dX5_trainIn_38 : decode cX5_trainIn 38 = .ok (.istore_n 2, 1) := by decide +kernel
theorem dX5_trainIn_39 : decode cX5_trainIn 39 = .ok (.iinc 3 1, 3) := by decide +kernel
theorem dX5_trainIn_42 : decode cX5_trainIn 42 = .ok (.goto (-38), 3) := by decide +kernel
theorem dX5_trainIn_45 : decode cX5_trainIn 45 = .ok (.iload_n 2, 1) := by decide +kernel
theorem dX5_trainIn_46 : decode cX5_trainIn 46 = .ok (.ireturn, 1) := by decide +kernel
set_option maxRecDepth 20000 in
theorem ggX5_isFree_X5_trainIn : GoodIn wsX5_isFree wsX5_trainIn := goodIn_r _ [6, 1, 7, 8, 9, 5, 10, 11, 12, 13, 14, 23, 24, 25, 26, 27, 28, 29, 30] (by decide +kernel) (by decide +kernel)
set_option maxRecDepth 20000 in
theorem gX5_isFree_X5_trainIn : GoodIn wsX5_isFree (wsV RX5 54 RX5 yX5_trainIn wsX5_trainIn) := goodIn_app (goodIn_of _ (by decide +kernel)) ggX5_isFree_X5_trainIn
set_option maxRecDepth 20000 in
theorem ggX5_isFree_X5_blockAhead : GoodIn wsX5_isFree wsX5_blockAhead := goodIn_r _ [18, 1, 23, 24, 25, 26, 27, 28, 29, 30] (by decide +kernel) (by decide +kernel)
set_option maxRecDepth 20000 in
theorem gX5_isFree_X5_blockAhead : GoodIn wsX5_isFree (wsV RX5 57 RX5 yX5_blockAhead wsX5_blockAhead) := goodIn_app (goodIn_of _ (by decide +kernel)) ggX5_isFree_X5_blockAhead
set_option maxRecDepth 20000 in
theorem ggX5_isFree_X5_brakeOf : GoodIn wsX5_isFree wsX5_brakeOf := goodIn_r _ [22, 1, 23, 24, 25, 26, 27, 28, 29, 30] (by decide +kernel) (by decide +kernel)
set_option maxRecDepth 20000 in
theorem gX5_isFree_X5_brakeOf : GoodIn wsX5_isFree (wsV RX5 60 RX5 yX5_brakeOf wsX5_brakeOf) := goodIn_app (goodIn_of _ (by decide +kernel)) ggX5_isFree_X5_brakeOf
set_option maxRecDepth 20000 in
theorem ggX5_isFree_X5_of : GoodIn wsX5_isFree wsX5_of := goodIn_r _ [10, 1, 23, 24, 25, 26, 27, 28, 29, 30] (by decide +kernel) (by decide +kernel)
set_option maxRecDepth 20000 in
theorem gX5_isFree_X5_of : GoodIn wsX5_isFree (wsV RX5 47 RX5 yX5_of wsX5_of) := goodIn_app (goodIn_of _ (by decide +kernel)) ggX5_isFree_X5_of
theorem dX5_isFree_0 : decode cX5_isFree 0 = .ok (.aload_n 0, 1) := by decide +kernel
theorem dX5_isFree_1 : decode cX5_isFree 1 = .ok (.iload_n 1, 1) := by decide +kernel
theorem dX5_isFree_2 : decode cX5_isFree 2 = .ok (.invokevirtual 54, 3) := by decide +kernel
theorem dX5_isFree_5 : decode cX5_isFree 5 = .ok (.iconst (-1), 1) := by decide +kernel
theorem dX5_isFree_6 : decode cX5_isFree 6 = .ok (.if_icmp .ne 7, 3) := by decide +kernel
theorem dX5_isFree_9 : decode cX5_isFree 9 = .ok (.iconst 1, 1) := by decide +kernel
theorem dX5_isFree_10 : decode cX5_isFree 10 = .ok (.goto 4, 3) := by decide +kernel
theorem dX5_isFree_13 : decode cX5_isFree 13 = .ok (.iconst 0, 1) := by decide +kernel
theorem dX5_isFree_14 : decode cX5_isFree 14 = .ok (.istore_n 2, 1) := by decide +kernel
theorem dX5_isFree_15 : decode cX5_isFree 15 = .ok (.aload_n 0, 1) := by decide +kernel
theorem dX5_isFree_16 : decode cX5_isFree 16 = .ok (.aload_n 0, 1) := by decide +kernel
theorem dX5_isFree_17 : decode cX5_isFree 17 = .ok (.iload_n 1, 1) := by decide +kernel
theorem dX5_isFree_18 : decode cX5_isFree 18 = .ok (.invokevirtual 57, 3) := by decide +kernel
theorem dX5_isFree_21 : decode cX5_isFree 21 = .ok (.invokevirtual 60, 3) := by decide +kernel
theorem dX5_isFree_24 : decode cX5_isFree 24 = .ok (.istore_n 3, 1) := by decide +kernel
theorem dX5_isFree_25 : decode cX5_isFree 25 = .ok (.iconst 0, 1) := by decide +kernel
theorem dX5_isFree_26 : decode cX5_isFree 26 = .ok (.istore 4, 2) := by decide +kernel
theorem dX5_isFree_28 : decode cX5_isFree 28 = .ok (.iload 4, 2) := by decide +kernel
theorem dX5_isFree_30 : decode cX5_isFree 30 = .ok (.aload_n 0, 1) := by decide +kernel
theorem dX5_isFree_31 : decode cX5_isFree 31 = .ok (.getfield 7, 3) := by decide +kernel
theorem dX5_isFree_34 : decode cX5_isFree 34 = .ok (.iconst 2, 1) := by decide +kernel
theorem dX5_isFree_35 : decode cX5_isFree 35 = .ok (.iaload, 1) := by decide +kernel
theorem dX5_isFree_36 : decode cX5_isFree 36 = .ok (.if_icmp .ge 40, 3) := by decide +kernel
theorem dX5_isFree_39 : decode cX5_isFree 39 = .ok (.iload_n 2, 1) := by decide +kernel
theorem dX5_isFree_40 : decode cX5_isFree 40 = .ok (.ifCond .eq 28, 3) := by decide +kernel
theorem dX5_isFree_43 : decode cX5_isFree 43 = .ok (.aload_n 0, 1) := by decide +kernel
theorem dX5_isFree_44 : decode cX5_isFree 44 = .ok (.iload 4, 2) := by decide +kernel
theorem dX5_isFree_46 : decode cX5_isFree 46 = .ok (.iconst 4, 1) := by decide +kernel
theorem dX5_isFree_47 : decode cX5_isFree 47 = .ok (.invokevirtual 47, 3) := by decide +kernel
theorem dX5_isFree_50 : decode cX5_isFree 50 = .ok (.ifCond .ne 14, 3) := by decide +kernel
theorem dX5_isFree_53 : decode cX5_isFree 53 = .ok (.aload_n 0, 1) := by decide +kernel
theorem dX5_isFree_54 : decode cX5_isFree 54 = .ok (.iload 4, 2) := by decide +kernel
theorem dX5_isFree_56 : decode cX5_isFree 56 = .ok (.iconst 0, 1) := by decide +kernel
theorem dX5_isFree_57 : decode cX5_isFree 57 = .ok (.invokevirtual 47, 3) := by decide +kernel
theorem dX5_isFree_60 : decode cX5_isFree 60 = .ok (.iload_n 3, 1) := by decide +kernel
theorem dX5_isFree_61 : decode cX5_isFree 61 = .ok (.if_icmp .eq 7, 3) := by decide +kernel
theorem dX5_isFree_64 : decode cX5_isFree 64 = .ok (.iconst 1, 1) := by decide +kernel
theorem dX5_isFree_65 : decode cX5_isFree 65 = .ok (.goto 4, 3) := by decide +kernel
theorem dX5_isFree_68 : decode cX5_isFree 68 = .ok (.iconst 0, 1) := by decide +kernel
theorem dX5_isFree_69 : decode cX5_isFree 69 = .ok (.istore_n 2, 1) := by decide +kernel
theorem dX5_isFree_70 : decode cX5_isFree 70 = .ok (.iinc 4 1, 3) := by decide +kernel
theorem dX5_isFree_73 : decode cX5_isFree 73 = .ok (.goto (-45), 3) := by decide +kernel
theorem dX5_isFree_76 : decode cX5_isFree 76 = .ok (.iload_n 2, 1) := by decide +kernel
theorem dX5_isFree_77 : decode cX5_isFree 77 = .ok (.ireturn, 1) := by decide +kernel
theorem dX5_root_0 : decode cX5_root 0 = .ok (.iconst 0, 1) := by decide +kernel
theorem dX5_root_1 : decode cX5_root 1 = .ok (.istore_n 1, 1) := by decide +kernel
theorem dX5_root_2 : decode cX5_root 2 = .ok (.iload_n 1, 1) := by decide +kernel
theorem dX5_root_3 : decode cX5_root 3 = .ok (.iconst 1, 1) := by decide +kernel
theorem dX5_root_4 : decode cX5_root 4 = .ok (.iadd, 1) := by decide +kernel
theorem dX5_root_5 : decode cX5_root 5 = .ok (.iload_n 1, 1) := by decide +kernel
theorem dX5_root_6 : decode cX5_root 6 = .ok (.iconst 1, 1) := by decide +kernel
theorem dX5_root_7 : decode cX5_root 7 = .ok (.iadd, 1) := by decide +kernel
theorem dX5_root_8 : decode cX5_root 8 = .ok (.imul, 1) := by decide +kernel
theorem dX5_root_9 : decode cX5_root 9 = .ok (.iload_n 0, 1) := by decide +kernel
theorem dX5_root_10 : decode cX5_root 10 = .ok (.if_icmp .gt 9, 3) := by decide +kernel
theorem dX5_root_13 : decode cX5_root 13 = .ok (.iinc 1 1, 3) := by decide +kernel
theorem dX5_root_16 : decode cX5_root 16 = .ok (.goto (-14), 3) := by decide +kernel
theorem dX5_root_19 : decode cX5_root 19 = .ok (.iload_n 1, 1) := by decide +kernel
theorem dX5_root_20 : decode cX5_root 20 = .ok (.ireturn, 1) := by decide +kernel
set_option maxRecDepth 20000 in
theorem ggX5_drag_X5_of : GoodIn wsX5_drag wsX5_of := goodIn_r _ [6, 1, 7, 8, 9, 10, 11, 12, 13, 14] (by decide +kernel) (by decide +kernel)
set_option maxRecDepth 20000 in
theorem gX5_drag_X5_of : GoodIn wsX5_drag (wsV RX5 47 RX5 yX5_of wsX5_of) := goodIn_app (goodIn_of _ (by decide +kernel)) ggX5_drag_X5_of
theorem dX5_drag_0 : decode cX5_drag 0 = .ok (.aload_n 0, 1) := by decide +kernel
theorem dX5_drag_1 : decode cX5_drag 1 = .ok (.iload_n 1, 1) := by decide +kernel
theorem dX5_drag_2 : decode cX5_drag 2 = .ok (.iconst 3, 1) := by decide +kernel
theorem dX5_drag_3 : decode cX5_drag 3 = .ok (.invokevirtual 47, 3) := by decide +kernel
theorem dX5_drag_6 : decode cX5_drag 6 = .ok (.istore_n 2, 1) := by decide +kernel
theorem dX5_drag_7 : decode cX5_drag 7 = .ok (.aload_n 0, 1) := by decide +kernel
theorem dX5_drag_8 : decode cX5_drag 8 = .ok (.getfield 7, 3) := by decide +kernel
theorem dX5_drag_11 : decode cX5_drag 11 = .ok (.iconst 4, 1) := by decide +kernel
theorem dX5_drag_12 : decode cX5_drag 12 = .ok (.iaload, 1) := by decide +kernel
theorem dX5_drag_13 : decode cX5_drag 13 = .ok (.iload_n 2, 1) := by decide +kernel
theorem dX5_drag_14 : decode cX5_drag 14 = .ok (.bipush 60, 2) := by decide +kernel
theorem dX5_drag_16 : decode cX5_drag 16 = .ok (.if_icmp .ge 13, 3) := by decide +kernel
theorem dX5_drag_19 : decode cX5_drag 19 = .ok (.bipush 60, 2) := by decide +kernel
theorem dX5_drag_21 : decode cX5_drag 21 = .ok (.iload_n 2, 1) := by decide +kernel
theorem dX5_drag_22 : decode cX5_drag 22 = .ok (.isub, 1) := by decide +kernel
theorem dX5_drag_23 : decode cX5_drag 23 = .ok (.bipush 10, 2) := by decide +kernel
theorem dX5_drag_25 : decode cX5_drag 25 = .ok (.idiv, 1) := by decide +kernel
theorem dX5_drag_26 : decode cX5_drag 26 = .ok (.goto 4, 3) := by decide +kernel
theorem dX5_drag_29 : decode cX5_drag 29 = .ok (.iconst 0, 1) := by decide +kernel
theorem dX5_drag_30 : decode cX5_drag 30 = .ok (.iadd, 1) := by decide +kernel
theorem dX5_drag_31 : decode cX5_drag 31 = .ok (.ireturn, 1) := by decide +kernel
set_option maxRecDepth 20000 in
theorem ggX5_stands_X5_put : GoodIn wsX5_stands wsX5_put := goodIn_r _ [5, 6, 7, 8, 9, 10, 11, 12, 13, 14] (by decide +kernel) (by decide +kernel)
set_option maxRecDepth 20000 in
theorem gX5_stands_X5_put : GoodIn wsX5_stands (wsV RX5 63 RX5 yX5_put wsX5_put) := goodIn_app (goodIn_of _ (by decide +kernel)) ggX5_stands_X5_put
theorem dX5_stands_0 : decode cX5_stands 0 = .ok (.aload_n 0, 1) := by decide +kernel
theorem dX5_stands_1 : decode cX5_stands 1 = .ok (.iload_n 1, 1) := by decide +kernel
theorem dX5_stands_2 : decode cX5_stands 2 = .ok (.iconst 4, 1) := by decide +kernel
theorem dX5_stands_3 : decode cX5_stands 3 = .ok (.iconst 1, 1) := by decide +kernel
theorem dX5_stands_4 : decode cX5_stands 4 = .ok (.invokevirtual 63, 3) := by decide +kernel
theorem dX5_stands_7 : decode cX5_stands 7 = .ok (.aload_n 0, 1) := by decide +kernel
theorem dX5_stands_8 : decode cX5_stands 8 = .ok (.iload_n 1, 1) := by decide +kernel
theorem dX5_stands_9 : decode cX5_stands 9 = .ok (.iconst 1, 1) := by decide +kernel
theorem dX5_stands_10 : decode cX5_stands 10 = .ok (.iconst 0, 1) := by decide +kernel
theorem dX5_stands_11 : decode cX5_stands 11 = .ok (.invokevirtual 63, 3) := by decide +kernel
theorem dX5_stands_14 : decode cX5_stands 14 = .ok (.aload_n 0, 1) := by decide +kernel
theorem dX5_stands_15 : decode cX5_stands 15 = .ok (.iload_n 1, 1) := by decide +kernel
theorem dX5_stands_16 : decode cX5_stands 16 = .ok (.iconst 2, 1) := by decide +kernel
theorem dX5_stands_17 : decode cX5_stands 17 = .ok (.iconst 0, 1) := by decide +kernel
theorem dX5_stands_18 : decode cX5_stands 18 = .ok (.invokevirtual 63, 3) := by decide +kernel
theorem dX5_stands_21 : decode cX5_stands 21 = .ok (.aload_n 0, 1) := by decide +kernel
theorem dX5_stands_22 : decode cX5_stands 22 = .ok (.iload_n 1, 1) := by decide +kernel
theorem dX5_stands_23 : decode cX5_stands 23 = .ok (.iconst 5, 1) := by decide +kernel
theorem dX5_stands_24 : decode cX5_stands 24 = .ok (.iconst 0, 1) := by decide +kernel
theorem dX5_stands_25 : decode cX5_stands 25 = .ok (.invokevirtual 63, 3) := by decide +kernel
theorem dX5_stands_28 : decode cX5_stands 28 = .ok (.return_, 1) := by decide +kernel
set_option maxRecDepth 20000 in
theorem ggX5_lies_X5_put : GoodIn wsX5_lies wsX5_put := goodIn_r _ [5, 6, 7, 8, 9, 10, 11, 12, 13, 14] (by decide +kernel) (by decide +kernel)
set_option maxRecDepth 20000 in
theorem gX5_lies_X5_put : GoodIn wsX5_lies (wsV RX5 63 RX5 yX5_put wsX5_put) := goodIn_app (goodIn_of _ (by decide +kernel)) ggX5_lies_X5_put
theorem dX5_lies_0 : decode cX5_lies 0 = .ok (.aload_n 0, 1) := by decide +kernel
theorem dX5_lies_1 : decode cX5_lies 1 = .ok (.iload_n 1, 1) := by decide +kernel
theorem dX5_lies_2 : decode cX5_lies 2 = .ok (.iconst 4, 1) := by decide +kernel
theorem dX5_lies_3 : decode cX5_lies 3 = .ok (.iconst 2, 1) := by decide +kernel
theorem dX5_lies_4 : decode cX5_lies 4 = .ok (.invokevirtual 63, 3) := by decide +kernel
theorem dX5_lies_7 : decode cX5_lies 7 = .ok (.aload_n 0, 1) := by decide +kernel
theorem dX5_lies_8 : decode cX5_lies 8 = .ok (.iload_n 1, 1) := by decide +kernel
theorem dX5_lies_9 : decode cX5_lies 9 = .ok (.iconst 1, 1) := by decide +kernel
theorem dX5_lies_10 : decode cX5_lies 10 = .ok (.iconst 0, 1) := by decide +kernel
theorem dX5_lies_11 : decode cX5_lies 11 = .ok (.invokevirtual 63, 3) := by decide +kernel
theorem dX5_lies_14 : decode cX5_lies 14 = .ok (.aload_n 0, 1) := by decide +kernel
theorem dX5_lies_15 : decode cX5_lies 15 = .ok (.iload_n 1, 1) := by decide +kernel
theorem dX5_lies_16 : decode cX5_lies 16 = .ok (.iconst 2, 1) := by decide +kernel
theorem dX5_lies_17 : decode cX5_lies 17 = .ok (.iconst 0, 1) := by decide +kernel
theorem dX5_lies_18 : decode cX5_lies 18 = .ok (.invokevirtual 63, 3) := by decide +kernel
theorem dX5_lies_21 : decode cX5_lies 21 = .ok (.return_, 1) := by decide +kernel
set_option maxRecDepth 20000 in
theorem ggX5_addTrain_X5_isBlock : GoodIn wsX5_addTrain wsX5_isBlock := goodIn_r _ [6, 1, 7, 8, 5, 9, 57, 58, 59, 60, 61, 62, 63, 64] (by decide +kernel) (by decide +kernel)
set_option maxRecDepth 20000 in
theorem gX5_addTrain_X5_isBlock : GoodIn wsX5_addTrain (wsV RX5 67 RX5 yX5_isBlock wsX5_isBlock) := goodIn_app (goodIn_of _ (by decide +kernel)) ggX5_addTrain_X5_isBlock
set_option maxRecDepth 20000 in
theorem ggX5_addTrain_X5_fails : GoodIn wsX5_addTrain wsX5_fails := goodIn_r _ [13, 14, 57, 58, 59, 60, 61, 62, 63, 64] (by decide +kernel) (by decide +kernel)
set_option maxRecDepth 20000 in
theorem gX5_addTrain_X5_fails : GoodIn wsX5_addTrain (wsV RX5 36 RX5 yX5_fails wsX5_fails) := goodIn_app (goodIn_of _ (by decide +kernel)) ggX5_addTrain_X5_fails
set_option maxRecDepth 20000 in
theorem ggX5_addTrain_X5_isFree : GoodIn wsX5_addTrain wsX5_isFree := goodIn_r _ [18, 1, 19, 20, 21, 5, 22, 23, 24, 25, 26, 27, 28, 29, 30, 31, 32, 33, 34, 35, 36, 37, 38, 57, 58, 59, 60, 61, 62, 63, 64] (by decide +kernel) (by decide +kernel)
set_option maxRecDepth 20000 in
theorem gX5_addTrain_X5_isFree : GoodIn wsX5_addTrain (wsV RX5 71 RX5 yX5_isFree wsX5_isFree) := goodIn_app (goodIn_of _ (by decide +kernel)) ggX5_addTrain_X5_isFree
set_option maxRecDepth 20000 in
theorem ggX5_addTrain_X5_saves : GoodIn wsX5_addTrain wsX5_saves := goodIn_r _ [42, 43, 44, 1, 57, 58, 59, 60, 61, 62, 63, 64] (by decide +kernel) (by decide +kernel)
set_option maxRecDepth 20000 in
theorem gX5_addTrain_X5_saves : GoodIn wsX5_addTrain (wsV RX5 74 RX5 yX5_saves wsX5_saves) := goodIn_app (goodIn_of _ (by decide +kernel)) ggX5_addTrain_X5_saves
set_option maxRecDepth 20000 in
theorem ggX5_addTrain_X5_brakeOf : GoodIn wsX5_addTrain wsX5_brakeOf := goodIn_r _ [38, 1, 57, 58, 59, 60, 61, 62, 63, 64] (by decide +kernel) (by decide +kernel)
set_option maxRecDepth 20000 in
theorem gX5_addTrain_X5_brakeOf : GoodIn wsX5_addTrain (wsV RX5 60 RX5 yX5_brakeOf wsX5_brakeOf) := goodIn_app (goodIn_of _ (by decide +kernel)) ggX5_addTrain_X5_brakeOf
set_option maxRecDepth 20000 in
theorem ggX5_addTrain_X5_put : GoodIn wsX5_addTrain wsX5_put := goodIn_r _ [48, 1, 57, 58, 59, 60, 61, 62, 63, 64] (by decide +kernel) (by decide +kernel)
set_option maxRecDepth 20000 in
theorem gX5_addTrain_X5_put : GoodIn wsX5_addTrain (wsV RX5 63 RX5 yX5_put wsX5_put) := goodIn_app (goodIn_of _ (by decide +kernel)) ggX5_addTrain_X5_put
set_option maxRecDepth 20000 in
theorem ggX5_addTrain_X5_stands : GoodIn wsX5_addTrain wsX5_stands := goodIn_r _ [52, 45, 46, 47, 5, 48, 1, 57, 58, 59, 60, 61, 62, 63, 64] (by decide +kernel) (by decide +kernel)
set_option maxRecDepth 20000 in
theorem gX5_addTrain_X5_stands : GoodIn wsX5_addTrain (wsV RX5 77 RX5 yX5_stands wsX5_stands) := goodIn_app (goodIn_of _ (by decide +kernel)) ggX5_addTrain_X5_stands
set_option maxRecDepth 20000 in
theorem ggX5_addTrain_X5_tells : GoodIn wsX5_addTrain wsX5_tells := goodIn_r _ [56, 14, 57, 58, 59, 60, 61, 62, 63, 64] (by decide +kernel) (by decide +kernel)
set_option maxRecDepth 20000 in
theorem gX5_addTrain_X5_tells : GoodIn wsX5_addTrain (wsV RX5 40 RX5 yX5_tells wsX5_tells) := goodIn_app (goodIn_of _ (by decide +kernel)) ggX5_addTrain_X5_tells
theorem dX5_addTrain_0 : decode cX5_addTrain 0 = .ok (.aload_n 0, 1) := by decide +kernel
theorem dX5_addTrain_1 : decode cX5_addTrain 1 = .ok (.iload_n 1, 1) := by decide +kernel
theorem dX5_addTrain_2 : decode cX5_addTrain 2 = .ok (.invokevirtual 67, 3) := by decide +kernel
theorem dX5_addTrain_5 : decode cX5_addTrain 5 = .ok (.ifCond .ne 9, 3) := by decide +kernel
theorem dX5_addTrain_8 : decode cX5_addTrain 8 = .ok (.aload_n 0, 1) := by decide +kernel
theorem dX5_addTrain_9 : decode cX5_addTrain 9 = .ok (.iconst 1, 1) := by decide +kernel
theorem dX5_addTrain_10 : decode cX5_addTrain 10 = .ok (.invokevirtual 36, 3) := by decide +kernel
theorem dX5_addTrain_13 : decode cX5_addTrain 13 = .ok (.ireturn, 1) := by decide +kernel
theorem dX5_addTrain_14 : decode cX5_addTrain 14 = .ok (.aload_n 0, 1) := by decide +kernel
theorem dX5_addTrain_15 : decode cX5_addTrain 15 = .ok (.getfield 7, 3) := by decide +kernel
theorem dX5_addTrain_18 : decode cX5_addTrain 18 = .ok (.iconst 2, 1) := by decide +kernel
theorem dX5_addTrain_19 : decode cX5_addTrain 19 = .ok (.iaload, 1) := by decide +kernel
theorem dX5_addTrain_20 : decode cX5_addTrain 20 = .ok (.iconst 4, 1) := by decide +kernel
theorem dX5_addTrain_21 : decode cX5_addTrain 21 = .ok (.if_icmp .eq 11, 3) := by decide +kernel
theorem dX5_addTrain_24 : decode cX5_addTrain 24 = .ok (.aload_n 0, 1) := by decide +kernel
theorem dX5_addTrain_25 : decode cX5_addTrain 25 = .ok (.iload_n 1, 1) := by decide +kernel
theorem dX5_addTrain_26 : decode cX5_addTrain 26 = .ok (.invokevirtual 71, 3) := by decide +kernel
theorem dX5_addTrain_29 : decode cX5_addTrain 29 = .ok (.ifCond .ne 9, 3) := by decide +kernel
theorem dX5_addTrain_32 : decode cX5_addTrain 32 = .ok (.aload_n 0, 1) := by decide +kernel
theorem dX5_addTrain_33 : decode cX5_addTrain 33 = .ok (.iconst 2, 1) := by decide +kernel
theorem dX5_addTrain_34 : decode cX5_addTrain 34 = .ok (.invokevirtual 36, 3) := by decide +kernel
theorem dX5_addTrain_37 : decode cX5_addTrain 37 = .ok (.ireturn, 1) := by decide +kernel
theorem dX5_addTrain_38 : decode cX5_addTrain 38 = .ok (.aload_n 0, 1) := by decide +kernel
theorem dX5_addTrain_39 : decode cX5_addTrain 39 = .ok (.invokevirtual 74, 3) := by decide +kernel
theorem dX5_addTrain_42 : decode cX5_addTrain 42 = .ok (.aload_n 0, 1) := by decide +kernel
theorem dX5_addTrain_43 : decode cX5_addTrain 43 = .ok (.getfield 7, 3) := by decide +kernel
theorem dX5_addTrain_46 : decode cX5_addTrain 46 = .ok (.iconst 2, 1) := by decide +kernel
theorem dX5_addTrain_47 : decode cX5_addTrain 47 = .ok (.iaload, 1) := by decide +kernel
theorem dX5_addTrain_48 : decode cX5_addTrain 48 = .ok (.istore_n 2, 1) := by decide +kernel
theorem dX5_addTrain_49 : decode cX5_addTrain 49 = .ok (.aload_n 0, 1) := by decide +kernel
theorem dX5_addTrain_50 : decode cX5_addTrain 50 = .ok (.getfield 7, 3) := by decide +kernel
theorem dX5_addTrain_53 : decode cX5_addTrain 53 = .ok (.iconst 2, 1) := by decide +kernel
theorem dX5_addTrain_54 : decode cX5_addTrain 54 = .ok (.dup2, 1) := by decide +kernel
theorem dX5_addTrain_55 : decode cX5_addTrain 55 = .ok (.iaload, 1) := by decide +kernel
theorem dX5_addTrain_56 : decode cX5_addTrain 56 = .ok (.iconst 1, 1) := by decide +kernel
theorem dX5_addTrain_57 : decode cX5_addTrain 57 = .ok (.iadd, 1) := by decide +kernel
theorem dX5_addTrain_58 : decode cX5_addTrain 58 = .ok (.iastore, 1) := by decide +kernel
theorem dX5_addTrain_59 : decode cX5_addTrain 59 = .ok (.aload_n 0, 1) := by decide +kernel
theorem dX5_addTrain_60 : decode cX5_addTrain 60 = .ok (.iload_n 2, 1) := by decide +kernel
theorem dX5_addTrain_61 : decode cX5_addTrain 61 = .ok (.iconst 0, 1) := by decide +kernel
theorem dX5_addTrain_62 : decode cX5_addTrain 62 = .ok (.aload_n 0, 1) := by decide +kernel
theorem dX5_addTrain_63 : decode cX5_addTrain 63 = .ok (.iload_n 1, 1) := by decide +kernel
theorem dX5_addTrain_64 : decode cX5_addTrain 64 = .ok (.invokevirtual 60, 3) := by decide +kernel
theorem dX5_addTrain_67 : decode cX5_addTrain 67 = .ok (.invokevirtual 63, 3) := by decide +kernel
theorem dX5_addTrain_70 : decode cX5_addTrain 70 = .ok (.aload_n 0, 1) := by decide +kernel
theorem dX5_addTrain_71 : decode cX5_addTrain 71 = .ok (.iload_n 2, 1) := by decide +kernel
theorem dX5_addTrain_72 : decode cX5_addTrain 72 = .ok (.iconst 3, 1) := by decide +kernel
theorem dX5_addTrain_73 : decode cX5_addTrain 73 = .ok (.aload_n 0, 1) := by decide +kernel
theorem dX5_addTrain_74 : decode cX5_addTrain 74 = .ok (.getfield 7, 3) := by decide +kernel
theorem dX5_addTrain_77 : decode cX5_addTrain 77 = .ok (.bipush 7, 2) := by decide +kernel
theorem dX5_addTrain_79 : decode cX5_addTrain 79 = .ok (.iaload, 1) := by decide +kernel
theorem dX5_addTrain_80 : decode cX5_addTrain 80 = .ok (.invokevirtual 63, 3) := by decide +kernel
theorem dX5_addTrain_83 : decode cX5_addTrain 83 = .ok (.aload_n 0, 1) := by decide +kernel
theorem dX5_addTrain_84 : decode cX5_addTrain 84 = .ok (.iload_n 2, 1) := by decide +kernel
theorem dX5_addTrain_85 : decode cX5_addTrain 85 = .ok (.bipush 6, 2) := by decide +kernel
theorem dX5_addTrain_87 : decode cX5_addTrain 87 = .ok (.iconst 0, 1) := by decide +kernel
theorem dX5_addTrain_88 : decode cX5_addTrain 88 = .ok (.invokevirtual 63, 3) := by decide +kernel
theorem dX5_addTrain_91 : decode cX5_addTrain 91 = .ok (.aload_n 0, 1) := by decide +kernel
theorem dX5_addTrain_92 : decode cX5_addTrain 92 = .ok (.iload_n 2, 1) := by decide +kernel
theorem dX5_addTrain_93 : decode cX5_addTrain 93 = .ok (.bipush 7, 2) := by decide +kernel
theorem dX5_addTrain_95 : decode cX5_addTrain 95 = .ok (.iconst 0, 1) := by decide +kernel
theorem dX5_addTrain_96 : decode cX5_addTrain 96 = .ok (.invokevirtual 63, 3) := by decide +kernel
theorem dX5_addTrain_99 : decode cX5_addTrain 99 = .ok (.aload_n 0, 1) := by decide +kernel
theorem dX5_addTrain_100 : decode cX5_addTrain 100 = .ok (.iload_n 2, 1) := by decide +kernel
theorem dX5_addTrain_101 : decode cX5_addTrain 101 = .ok (.invokevirtual 77, 3) := by decide +kernel
theorem dX5_addTrain_104 : decode cX5_addTrain 104 = .ok (.aload_n 0, 1) := by decide +kernel
theorem dX5_addTrain_105 : decode cX5_addTrain 105 = .ok (.iload_n 2, 1) := by decide +kernel
theorem dX5_addTrain_106 : decode cX5_addTrain 106 = .ok (.invokevirtual 40, 3) := by decide +kernel
theorem dX5_addTrain_109 : decode cX5_addTrain 109 = .ok (.ireturn, 1) := by decide +kernel
set_option maxRecDepth 20000 in
theorem ggX5_takeTrain_X5_fails : GoodIn wsX5_takeTrain wsX5_fails := goodIn_r _ [6, 7, 18, 19, 20, 21, 22, 23, 24, 25] (by decide +kernel) (by decide +kernel)
set_option maxRecDepth 20000 in
theorem gX5_takeTrain_X5_fails : GoodIn wsX5_takeTrain (wsV RX5 36 RX5 yX5_fails wsX5_fails) := goodIn_app (goodIn_of _ (by decide +kernel)) ggX5_takeTrain_X5_fails
set_option maxRecDepth 20000 in
theorem ggX5_takeTrain_X5_saves : GoodIn wsX5_takeTrain wsX5_saves := goodIn_r _ [11, 12, 13, 1, 18, 19, 20, 21, 22, 23, 24, 25] (by decide +kernel) (by decide +kernel)
set_option maxRecDepth 20000 in
theorem gX5_takeTrain_X5_saves : GoodIn wsX5_takeTrain (wsV RX5 74 RX5 yX5_saves wsX5_saves) := goodIn_app (goodIn_of _ (by decide +kernel)) ggX5_takeTrain_X5_saves
set_option maxRecDepth 20000 in
theorem ggX5_takeTrain_X5_tells : GoodIn wsX5_takeTrain wsX5_tells := goodIn_r _ [17, 7, 18, 19, 20, 21, 22, 23, 24, 25] (by decide +kernel) (by decide +kernel)
set_option maxRecDepth 20000 in
theorem gX5_takeTrain_X5_tells : GoodIn wsX5_takeTrain (wsV RX5 40 RX5 yX5_tells wsX5_tells) := goodIn_app (goodIn_of _ (by decide +kernel)) ggX5_takeTrain_X5_tells
theorem dX5_takeTrain_0 : decode cX5_takeTrain 0 = .ok (.aload_n 0, 1) := by decide +kernel
theorem dX5_takeTrain_1 : decode cX5_takeTrain 1 = .ok (.getfield 7, 3) := by decide +kernel
theorem dX5_takeTrain_4 : decode cX5_takeTrain 4 = .ok (.iconst 2, 1) := by decide +kernel
theorem dX5_takeTrain_5 : decode cX5_takeTrain 5 = .ok (.iaload, 1) := by decide +kernel
theorem dX5_takeTrain_6 : decode cX5_takeTrain 6 = .ok (.ifCond .ne 9, 3) := by decide +kernel
theorem dX5_takeTrain_9 : decode cX5_takeTrain 9 = .ok (.aload_n 0, 1) := by decide +kernel
theorem dX5_takeTrain_10 : decode cX5_takeTrain 10 = .ok (.iconst 1, 1) := by decide +kernel
theorem dX5_takeTrain_11 : decode cX5_takeTrain 11 = .ok (.invokevirtual 36, 3) := by decide +kernel
theorem dX5_takeTrain_14 : decode cX5_takeTrain 14 = .ok (.ireturn, 1) := by decide +kernel
theorem dX5_takeTrain_15 : decode cX5_takeTrain 15 = .ok (.aload_n 0, 1) := by decide +kernel
theorem dX5_takeTrain_16 : decode cX5_takeTrain 16 = .ok (.invokevirtual 74, 3) := by decide +kernel
theorem dX5_takeTrain_19 : decode cX5_takeTrain 19 = .ok (.aload_n 0, 1) := by decide +kernel
theorem dX5_takeTrain_20 : decode cX5_takeTrain 20 = .ok (.getfield 7, 3) := by decide +kernel
theorem dX5_takeTrain_23 : decode cX5_takeTrain 23 = .ok (.iconst 2, 1) := by decide +kernel
theorem dX5_takeTrain_24 : decode cX5_takeTrain 24 = .ok (.dup2, 1) := by decide +kernel
theorem dX5_takeTrain_25 : decode cX5_takeTrain 25 = .ok (.iaload, 1) := by decide +kernel
theorem dX5_takeTrain_26 : decode cX5_takeTrain 26 = .ok (.iconst 1, 1) := by decide +kernel
theorem dX5_takeTrain_27 : decode cX5_takeTrain 27 = .ok (.isub, 1) := by decide +kernel
theorem dX5_takeTrain_28 : decode cX5_takeTrain 28 = .ok (.iastore, 1) := by decide +kernel
theorem dX5_takeTrain_29 : decode cX5_takeTrain 29 = .ok (.aload_n 0, 1) := by decide +kernel
theorem dX5_takeTrain_30 : decode cX5_takeTrain 30 = .ok (.aload_n 0, 1) := by decide +kernel
theorem dX5_takeTrain_31 : decode cX5_takeTrain 31 = .ok (.getfield 7, 3) := by decide +kernel
theorem dX5_takeTrain_34 : decode cX5_takeTrain 34 = .ok (.iconst 2, 1) := by decide +kernel
theorem dX5_takeTrain_35 : decode cX5_takeTrain 35 = .ok (.iaload, 1) := by decide +kernel
theorem dX5_takeTrain_36 : decode cX5_takeTrain 36 = .ok (.invokevirtual 40, 3) := by decide +kernel
theorem dX5_takeTrain_39 : decode cX5_takeTrain 39 = .ok (.ireturn, 1) := by decide +kernel
set_option maxRecDepth 20000 in
theorem ggX5_rescue_X5_isTrain : GoodIn wsX5_rescue wsX5_isTrain := goodIn_r _ [5, 6, 7, 8, 4, 9, 45, 46, 47, 48, 49, 50, 51, 52] (by decide +kernel) (by decide +kernel)
set_option maxRecDepth 20000 in
theorem gX5_rescue_X5_isTrain : GoodIn wsX5_rescue (wsV RX5 81 RX5 yX5_isTrain wsX5_isTrain) := goodIn_app (goodIn_of _ (by decide +kernel)) ggX5_rescue_X5_isTrain
set_option maxRecDepth 20000 in
theorem ggX5_rescue_X5_fails : GoodIn wsX5_rescue wsX5_fails := goodIn_r _ [13, 14, 45, 46, 47, 48, 49, 50, 51, 52] (by decide +kernel) (by decide +kernel)
set_option maxRecDepth 20000 in
theorem gX5_rescue_X5_fails : GoodIn wsX5_rescue (wsV RX5 36 RX5 yX5_fails wsX5_fails) := goodIn_app (goodIn_of _ (by decide +kernel)) ggX5_rescue_X5_fails
set_option maxRecDepth 20000 in
theorem ggX5_rescue_X5_of : GoodIn wsX5_rescue wsX5_of := goodIn_r _ [18, 6, 45, 46, 47, 48, 49, 50, 51, 52] (by decide +kernel) (by decide +kernel)
set_option maxRecDepth 20000 in
theorem gX5_rescue_X5_of : GoodIn wsX5_rescue (wsV RX5 47 RX5 yX5_of wsX5_of) := goodIn_app (goodIn_of _ (by decide +kernel)) ggX5_rescue_X5_of
set_option maxRecDepth 20000 in
theorem ggX5_rescue_X5_saves : GoodIn wsX5_rescue wsX5_saves := goodIn_r _ [22, 23, 24, 6, 45, 46, 47, 48, 49, 50, 51, 52] (by decide +kernel) (by decide +kernel)
set_option maxRecDepth 20000 in
theorem gX5_rescue_X5_saves : GoodIn wsX5_rescue (wsV RX5 74 RX5 yX5_saves wsX5_saves) := goodIn_app (goodIn_of _ (by decide +kernel)) ggX5_rescue_X5_saves
set_option maxRecDepth 20000 in
theorem ggX5_rescue_X5_blockAt : GoodIn wsX5_rescue wsX5_blockAt := goodIn_r _ [28, 6, 45, 46, 47, 48, 49, 50, 51, 52] (by decide +kernel) (by decide +kernel)
set_option maxRecDepth 20000 in
theorem gX5_rescue_X5_blockAt : GoodIn wsX5_rescue (wsV RX5 51 RX5 yX5_blockAt wsX5_blockAt) := goodIn_app (goodIn_of _ (by decide +kernel)) ggX5_rescue_X5_blockAt
set_option maxRecDepth 20000 in
theorem ggX5_rescue_X5_brakeOf : GoodIn wsX5_rescue wsX5_brakeOf := goodIn_r _ [32, 6, 45, 46, 47, 48, 49, 50, 51, 52] (by decide +kernel) (by decide +kernel)
set_option maxRecDepth 20000 in
theorem gX5_rescue_X5_brakeOf : GoodIn wsX5_rescue (wsV RX5 60 RX5 yX5_brakeOf wsX5_brakeOf) := goodIn_app (goodIn_of _ (by decide +kernel)) ggX5_rescue_X5_brakeOf
set_option maxRecDepth 20000 in
theorem ggX5_rescue_X5_put : GoodIn wsX5_rescue wsX5_put := goodIn_r _ [36, 6, 45, 46, 47, 48, 49, 50, 51, 52] (by decide +kernel) (by decide +kernel)
set_option maxRecDepth 20000 in
theorem gX5_rescue_X5_put : GoodIn wsX5_rescue (wsV RX5 63 RX5 yX5_put wsX5_put) := goodIn_app (goodIn_of _ (by decide +kernel)) ggX5_rescue_X5_put
set_option maxRecDepth 20000 in
theorem ggX5_rescue_X5_stands : GoodIn wsX5_rescue wsX5_stands := goodIn_r _ [40, 33, 34, 35, 4, 36, 6, 45, 46, 47, 48, 49, 50, 51, 52] (by decide +kernel) (by decide +kernel)
set_option maxRecDepth 20000 in
theorem gX5_rescue_X5_stands : GoodIn wsX5_rescue (wsV RX5 77 RX5 yX5_stands wsX5_stands) := goodIn_app (goodIn_of _ (by decide +kernel)) ggX5_rescue_X5_stands
set_option maxRecDepth 20000 in
theorem ggX5_rescue_X5_tells : GoodIn wsX5_rescue wsX5_tells := goodIn_r _ [44, 14, 45, 46, 47, 48, 49, 50, 51, 52] (by decide +kernel) (by decide +kernel)
set_option maxRecDepth 20000 in
theorem gX5_rescue_X5_tells : GoodIn wsX5_rescue (wsV RX5 40 RX5 yX5_tells wsX5_tells) := goodIn_app (goodIn_of _ (by decide +kernel)) ggX5_rescue_X5_tells
theorem dX5_rescue_0 : decode cX5_rescue 0 = .ok (.aload_n 0, 1) := by decide +kernel
theorem dX5_rescue_1 : decode cX5_rescue 1 = .ok (.iload_n 1, 1) := by decide +kernel
theorem dX5_rescue_2 : decode cX5_rescue 2 = .ok (.invokevirtual 81, 3) := by decide +kernel
theorem dX5_rescue_5 : decode cX5_rescue 5 = .ok (.ifCond .ne 9, 3) := by decide +kernel
theorem dX5_rescue_8 : decode cX5_rescue 8 = .ok (.aload_n 0, 1) := by decide +kernel
theorem dX5_rescue_9 : decode cX5_rescue 9 = .ok (.iconst 1, 1) := by decide +kernel
theorem dX5_rescue_10 : decode cX5_rescue 10 = .ok (.invokevirtual 36, 3) := by decide +kernel
theorem dX5_rescue_13 : decode cX5_rescue 13 = .ok (.ireturn, 1) := by decide +kernel
theorem dX5_rescue_14 : decode cX5_rescue 14 = .ok (.aload_n 0, 1) := by decide +kernel
theorem dX5_rescue_15 : decode cX5_rescue 15 = .ok (.iload_n 1, 1) := by decide +kernel
theorem dX5_rescue_16 : decode cX5_rescue 16 = .ok (.iconst 4, 1) := by decide +kernel
theorem dX5_rescue_17 : decode cX5_rescue 17 = .ok (.invokevirtual 47, 3) := by decide +kernel
theorem dX5_rescue_20 : decode cX5_rescue 20 = .ok (.iconst 2, 1) := by decide +kernel
theorem dX5_rescue_21 : decode cX5_rescue 21 = .ok (.if_icmp .eq 9, 3) := by decide +kernel
theorem dX5_rescue_24 : decode cX5_rescue 24 = .ok (.aload_n 0, 1) := by decide +kernel
theorem dX5_rescue_25 : decode cX5_rescue 25 = .ok (.iconst 2, 1) := by decide +kernel
theorem dX5_rescue_26 : decode cX5_rescue 26 = .ok (.invokevirtual 36, 3) := by decide +kernel
theorem dX5_rescue_29 : decode cX5_rescue 29 = .ok (.ireturn, 1) := by decide +kernel
theorem dX5_rescue_30 : decode cX5_rescue 30 = .ok (.aload_n 0, 1) := by decide +kernel
theorem dX5_rescue_31 : decode cX5_rescue 31 = .ok (.invokevirtual 74, 3) := by decide +kernel
theorem dX5_rescue_34 : decode cX5_rescue 34 = .ok (.aload_n 0, 1) := by decide +kernel
theorem dX5_rescue_35 : decode cX5_rescue 35 = .ok (.iload_n 1, 1) := by decide +kernel
theorem dX5_rescue_36 : decode cX5_rescue 36 = .ok (.iconst 0, 1) := by decide +kernel
theorem dX5_rescue_37 : decode cX5_rescue 37 = .ok (.invokevirtual 47, 3) := by decide +kernel
theorem dX5_rescue_40 : decode cX5_rescue 40 = .ok (.istore_n 2, 1) := by decide +kernel
theorem dX5_rescue_41 : decode cX5_rescue 41 = .ok (.aload_n 0, 1) := by decide +kernel
theorem dX5_rescue_42 : decode cX5_rescue 42 = .ok (.iload_n 1, 1) := by decide +kernel
theorem dX5_rescue_43 : decode cX5_rescue 43 = .ok (.iconst 0, 1) := by decide +kernel
theorem dX5_rescue_44 : decode cX5_rescue 44 = .ok (.aload_n 0, 1) := by decide +kernel
theorem dX5_rescue_45 : decode cX5_rescue 45 = .ok (.aload_n 0, 1) := by decide +kernel
theorem dX5_rescue_46 : decode cX5_rescue 46 = .ok (.iload_n 2, 1) := by decide +kernel
theorem dX5_rescue_47 : decode cX5_rescue 47 = .ok (.invokevirtual 51, 3) := by decide +kernel
theorem dX5_rescue_50 : decode cX5_rescue 50 = .ok (.invokevirtual 60, 3) := by decide +kernel
theorem dX5_rescue_53 : decode cX5_rescue 53 = .ok (.invokevirtual 63, 3) := by decide +kernel
theorem dX5_rescue_56 : decode cX5_rescue 56 = .ok (.aload_n 0, 1) := by decide +kernel
theorem dX5_rescue_57 : decode cX5_rescue 57 = .ok (.iload_n 1, 1) := by decide +kernel
theorem dX5_rescue_58 : decode cX5_rescue 58 = .ok (.invokevirtual 77, 3) := by decide +kernel
theorem dX5_rescue_61 : decode cX5_rescue 61 = .ok (.aload_n 0, 1) := by decide +kernel
theorem dX5_rescue_62 : decode cX5_rescue 62 = .ok (.iload_n 2, 1) := by decide +kernel
theorem dX5_rescue_63 : decode cX5_rescue 63 = .ok (.invokevirtual 40, 3) := by decide +kernel
theorem dX5_rescue_66 : decode cX5_rescue 66 = .ok (.ireturn, 1) := by decide +kernel
set_option maxRecDepth 20000 in
theorem ggX5_canBe_X5_in : GoodIn wsX5_canBe wsX5_in := goodIn_r _ [4] (by decide +kernel) (by decide +kernel)
set_option maxRecDepth 20000 in
theorem gX5_canBe_X5_in : GoodIn wsX5_canBe (va_wsS RX5 43 yX5_in wsX5_in) := goodIn_app (goodIn_of _ (by decide +kernel)) ggX5_canBe_X5_in
theorem dX5_canBe_0 : decode cX5_canBe 0 = .ok (.iload_n 0, 1) := by decide +kernel
theorem dX5_canBe_1 : decode cX5_canBe 1 = .ok (.ifCond .ne 13, 3) := by decide +kernel
theorem dX5_canBe_4 : decode cX5_canBe 4 = .ok (.iload_n 1, 1) := by decide +kernel
theorem dX5_canBe_5 : decode cX5_canBe 5 = .ok (.iconst 0, 1) := by decide +kernel
theorem dX5_canBe_6 : decode cX5_canBe 6 = .ok (.bipush 20, 2) := by decide +kernel
theorem dX5_canBe_8 : decode cX5_canBe 8 = .ok (.invokestatic 43, 3) := by decide +kernel
theorem dX5_canBe_11 : decode cX5_canBe 11 = .ok (.goto 41, 3) := by decide +kernel
theorem dX5_canBe_14 : decode cX5_canBe 14 = .ok (.iload_n 0, 1) := by decide +kernel
theorem dX5_canBe_15 : decode cX5_canBe 15 = .ok (.iconst 1, 1) := by decide +kernel
theorem dX5_canBe_16 : decode cX5_canBe 16 = .ok (.if_icmp .ne 13, 3) := by decide +kernel
theorem dX5_canBe_19 : decode cX5_canBe 19 = .ok (.iload_n 1, 1) := by decide +kernel
theorem dX5_canBe_20 : decode cX5_canBe 20 = .ok (.iconst 1, 1) := by decide +kernel
theorem dX5_canBe_21 : decode cX5_canBe 21 = .ok (.bipush 50, 2) := by decide +kernel
theorem dX5_canBe_23 : decode cX5_canBe 23 = .ok (.invokestatic 43, 3) := by decide +kernel
theorem dX5_canBe_26 : decode cX5_canBe 26 = .ok (.goto 26, 3) := by decide +kernel
theorem dX5_canBe_29 : decode cX5_canBe 29 = .ok (.iload_n 0, 1) := by decide +kernel
theorem dX5_canBe_30 : decode cX5_canBe 30 = .ok (.iconst 2, 1) := by decide +kernel
theorem dX5_canBe_31 : decode cX5_canBe 31 = .ok (.if_icmp .ne 14, 3) := by decide +kernel
theorem dX5_canBe_34 : decode cX5_canBe 34 = .ok (.iload_n 1, 1) := by decide +kernel
theorem dX5_canBe_35 : decode cX5_canBe 35 = .ok (.iconst 0, 1) := by decide +kernel
theorem dX5_canBe_36 : decode cX5_canBe 36 = .ok (.sipush 500, 3) := by decide +kernel
theorem dX5_canBe_39 : decode cX5_canBe 39 = .ok (.invokestatic 43, 3) := by decide +kernel
theorem dX5_canBe_42 : decode cX5_canBe 42 = .ok (.goto 10, 3) := by decide +kernel
theorem dX5_canBe_45 : decode cX5_canBe 45 = .ok (.iload_n 1, 1) := by decide +kernel
theorem dX5_canBe_46 : decode cX5_canBe 46 = .ok (.iconst 0, 1) := by decide +kernel
theorem dX5_canBe_47 : decode cX5_canBe 47 = .ok (.bipush 40, 2) := by decide +kernel
theorem dX5_canBe_49 : decode cX5_canBe 49 = .ok (.invokestatic 43, 3) := by decide +kernel
theorem dX5_canBe_52 : decode cX5_canBe 52 = .ok (.ireturn, 1) := by decide +kernel
set_option maxRecDepth 20000 in
theorem ggX5_set_X5_in : GoodIn wsX5_set wsX5_in := goodIn_r _ [5] (by decide +kernel) (by decide +kernel)
set_option maxRecDepth 20000 in
theorem gX5_set_X5_in : GoodIn wsX5_set (va_wsS RX5 43 yX5_in wsX5_in) := goodIn_app (goodIn_of _ (by decide +kernel)) ggX5_set_X5_in
set_option maxRecDepth 20000 in
theorem ggX5_set_X5_fails : GoodIn wsX5_set wsX5_fails := goodIn_r _ [9, 10, 24, 25, 26, 27, 28, 29, 30, 31] (by decide +kernel) (by decide +kernel)
set_option maxRecDepth 20000 in
theorem gX5_set_X5_fails : GoodIn wsX5_set (wsV RX5 36 RX5 yX5_fails wsX5_fails) := goodIn_app (goodIn_of _ (by decide +kernel)) ggX5_set_X5_fails
set_option maxRecDepth 20000 in
theorem ggX5_set_X5_canBe : GoodIn wsX5_set wsX5_canBe := goodIn_r _ [13, 2, 3, 4, 5] (by decide +kernel) (by decide +kernel)
set_option maxRecDepth 20000 in
theorem gX5_set_X5_canBe : GoodIn wsX5_set (va_wsS RX5 84 yX5_canBe wsX5_canBe) := goodIn_app (goodIn_of _ (by decide +kernel)) ggX5_set_X5_canBe
set_option maxRecDepth 20000 in
theorem ggX5_set_X5_saves : GoodIn wsX5_set wsX5_saves := goodIn_r _ [17, 18, 19, 1, 24, 25, 26, 27, 28, 29, 30, 31] (by decide +kernel) (by decide +kernel)
set_option maxRecDepth 20000 in
theorem gX5_set_X5_saves : GoodIn wsX5_set (wsV RX5 74 RX5 yX5_saves wsX5_saves) := goodIn_app (goodIn_of _ (by decide +kernel)) ggX5_set_X5_saves
set_option maxRecDepth 20000 in
theorem ggX5_set_X5_tells : GoodIn wsX5_set wsX5_tells := goodIn_r _ [23, 10, 24, 25, 26, 27, 28, 29, 30, 31] (by decide +kernel) (by decide +kernel)
set_option maxRecDepth 20000 in
theorem gX5_set_X5_tells : GoodIn wsX5_set (wsV RX5 40 RX5 yX5_tells wsX5_tells) := goodIn_app (goodIn_of _ (by decide +kernel)) ggX5_set_X5_tells
theorem dX5_set_0 : decode cX5_set 0 = .ok (.iload_n 1, 1) := by decide +kernel
theorem dX5_set_1 : decode cX5_set 1 = .ok (.iconst 0, 1) := by decide +kernel
theorem dX5_set_2 : decode cX5_set 2 = .ok (.iconst 3, 1) := by decide +kernel
theorem dX5_set_3 : decode cX5_set 3 = .ok (.invokestatic 43, 3) := by decide +kernel
theorem dX5_set_6 : decode cX5_set 6 = .ok (.ifCond .ne 9, 3) := by decide +kernel
theorem dX5_set_9 : decode cX5_set 9 = .ok (.aload_n 0, 1) := by decide +kernel
theorem dX5_set_10 : decode cX5_set 10 = .ok (.iconst 1, 1) := by decide +kernel
theorem dX5_set_11 : decode cX5_set 11 = .ok (.invokevirtual 36, 3) := by decide +kernel
theorem dX5_set_14 : decode cX5_set 14 = .ok (.ireturn, 1) := by decide +kernel
theorem dX5_set_15 : decode cX5_set 15 = .ok (.iload_n 1, 1) := by decide +kernel
theorem dX5_set_16 : decode cX5_set 16 = .ok (.iload_n 2, 1) := by decide +kernel
theorem dX5_set_17 : decode cX5_set 17 = .ok (.invokestatic 84, 3) := by decide +kernel
theorem dX5_set_20 : decode cX5_set 20 = .ok (.ifCond .ne 9, 3) := by decide +kernel
theorem dX5_set_23 : decode cX5_set 23 = .ok (.aload_n 0, 1) := by decide +kernel
theorem dX5_set_24 : decode cX5_set 24 = .ok (.iconst 2, 1) := by decide +kernel
theorem dX5_set_25 : decode cX5_set 25 = .ok (.invokevirtual 36, 3) := by decide +kernel
theorem dX5_set_28 : decode cX5_set 28 = .ok (.ireturn, 1) := by decide +kernel
theorem dX5_set_29 : decode cX5_set 29 = .ok (.aload_n 0, 1) := by decide +kernel
theorem dX5_set_30 : decode cX5_set 30 = .ok (.invokevirtual 74, 3) := by decide +kernel
theorem dX5_set_33 : decode cX5_set 33 = .ok (.aload_n 0, 1) := by decide +kernel
theorem dX5_set_34 : decode cX5_set 34 = .ok (.getfield 7, 3) := by decide +kernel
theorem dX5_set_37 : decode cX5_set 37 = .ok (.iconst 4, 1) := by decide +kernel
theorem dX5_set_38 : decode cX5_set 38 = .ok (.iload_n 1, 1) := by decide +kernel
theorem dX5_set_39 : decode cX5_set 39 = .ok (.iadd, 1) := by decide +kernel
theorem dX5_set_40 : decode cX5_set 40 = .ok (.iaload, 1) := by decide +kernel
theorem dX5_set_41 : decode cX5_set 41 = .ok (.istore_n 3, 1) := by decide +kernel
theorem dX5_set_42 : decode cX5_set 42 = .ok (.aload_n 0, 1) := by decide +kernel
theorem dX5_set_43 : decode cX5_set 43 = .ok (.getfield 7, 3) := by decide +kernel
theorem dX5_set_46 : decode cX5_set 46 = .ok (.iconst 4, 1) := by decide +kernel
theorem dX5_set_47 : decode cX5_set 47 = .ok (.iload_n 1, 1) := by decide +kernel
theorem dX5_set_48 : decode cX5_set 48 = .ok (.iadd, 1) := by decide +kernel
theorem dX5_set_49 : decode cX5_set 49 = .ok (.iload_n 2, 1) := by decide +kernel
theorem dX5_set_50 : decode cX5_set 50 = .ok (.iastore, 1) := by decide +kernel
theorem dX5_set_51 : decode cX5_set 51 = .ok (.aload_n 0, 1) := by decide +kernel
theorem dX5_set_52 : decode cX5_set 52 = .ok (.iload_n 3, 1) := by decide +kernel
theorem dX5_set_53 : decode cX5_set 53 = .ok (.invokevirtual 40, 3) := by decide +kernel
theorem dX5_set_56 : decode cX5_set 56 = .ok (.ireturn, 1) := by decide +kernel
set_option maxRecDepth 20000 in
theorem ggX5_setHeight_X5_isCell : GoodIn wsX5_setHeight wsX5_isCell := goodIn_r _ [6, 1, 7, 8, 5, 9, 25, 26, 27, 28, 29, 30, 31, 32] (by decide +kernel) (by decide +kernel)
set_option maxRecDepth 20000 in
theorem gX5_setHeight_X5_isCell : GoodIn wsX5_setHeight (wsV RX5 88 RX5 yX5_isCell wsX5_isCell) := goodIn_app (goodIn_of _ (by decide +kernel)) ggX5_setHeight_X5_isCell
set_option maxRecDepth 20000 in
theorem ggX5_setHeight_X5_fails : GoodIn wsX5_setHeight wsX5_fails := goodIn_r _ [13, 14, 25, 26, 27, 28, 29, 30, 31, 32] (by decide +kernel) (by decide +kernel)
set_option maxRecDepth 20000 in
theorem gX5_setHeight_X5_fails : GoodIn wsX5_setHeight (wsV RX5 36 RX5 yX5_fails wsX5_fails) := goodIn_app (goodIn_of _ (by decide +kernel)) ggX5_setHeight_X5_fails
set_option maxRecDepth 20000 in
theorem ggX5_setHeight_X5_in : GoodIn wsX5_setHeight wsX5_in := goodIn_r _ [9] (by decide +kernel) (by decide +kernel)
set_option maxRecDepth 20000 in
theorem gX5_setHeight_X5_in : GoodIn wsX5_setHeight (va_wsS RX5 43 yX5_in wsX5_in) := goodIn_app (goodIn_of _ (by decide +kernel)) ggX5_setHeight_X5_in
set_option maxRecDepth 20000 in
theorem ggX5_setHeight_X5_saves : GoodIn wsX5_setHeight wsX5_saves := goodIn_r _ [18, 19, 20, 1, 25, 26, 27, 28, 29, 30, 31, 32] (by decide +kernel) (by decide +kernel)
set_option maxRecDepth 20000 in
theorem gX5_setHeight_X5_saves : GoodIn wsX5_setHeight (wsV RX5 74 RX5 yX5_saves wsX5_saves) := goodIn_app (goodIn_of _ (by decide +kernel)) ggX5_setHeight_X5_saves
set_option maxRecDepth 20000 in
theorem ggX5_setHeight_X5_tells : GoodIn wsX5_setHeight wsX5_tells := goodIn_r _ [24, 14, 25, 26, 27, 28, 29, 30, 31, 32] (by decide +kernel) (by decide +kernel)
set_option maxRecDepth 20000 in
theorem gX5_setHeight_X5_tells : GoodIn wsX5_setHeight (wsV RX5 40 RX5 yX5_tells wsX5_tells) := goodIn_app (goodIn_of _ (by decide +kernel)) ggX5_setHeight_X5_tells
theorem dX5_setHeight_0 : decode cX5_setHeight 0 = .ok (.aload_n 0, 1) := by decide +kernel
theorem dX5_setHeight_1 : decode cX5_setHeight 1 = .ok (.iload_n 1, 1) := by decide +kernel
theorem dX5_setHeight_2 : decode cX5_setHeight 2 = .ok (.invokevirtual 88, 3) := by decide +kernel
theorem dX5_setHeight_5 : decode cX5_setHeight 5 = .ok (.ifCond .ne 9, 3) := by decide +kernel
theorem dX5_setHeight_8 : decode cX5_setHeight 8 = .ok (.aload_n 0, 1) := by decide +kernel
theorem dX5_setHeight_9 : decode cX5_setHeight 9 = .ok (.iconst 1, 1) := by decide +kernel
theorem dX5_setHeight_10 : decode cX5_setHeight 10 = .ok (.invokevirtual 36, 3) := by decide +kernel
theorem dX5_setHeight_13 : decode cX5_setHeight 13 = .ok (.ireturn, 1) := by decide +kernel
theorem dX5_setHeight_14 : decode cX5_setHeight 14 = .ok (.iload_n 2, 1) := by decide +kernel
theorem dX5_setHeight_15 : decode cX5_setHeight 15 = .ok (.iconst 0, 1) := by decide +kernel
theorem dX5_setHeight_16 : decode cX5_setHeight 16 = .ok (.bipush 9, 2) := by decide +kernel
theorem dX5_setHeight_18 : decode cX5_setHeight 18 = .ok (.invokestatic 43, 3) := by decide +kernel
theorem dX5_setHeight_21 : decode cX5_setHeight 21 = .ok (.ifCond .ne 9, 3) := by decide +kernel
theorem dX5_setHeight_24 : decode cX5_setHeight 24 = .ok (.aload_n 0, 1) := by decide +kernel
theorem dX5_setHeight_25 : decode cX5_setHeight 25 = .ok (.iconst 2, 1) := by decide +kernel
theorem dX5_setHeight_26 : decode cX5_setHeight 26 = .ok (.invokevirtual 36, 3) := by decide +kernel
theorem dX5_setHeight_29 : decode cX5_setHeight 29 = .ok (.ireturn, 1) := by decide +kernel
theorem dX5_setHeight_30 : decode cX5_setHeight 30 = .ok (.aload_n 0, 1) := by decide +kernel
theorem dX5_setHeight_31 : decode cX5_setHeight 31 = .ok (.invokevirtual 74, 3) := by decide +kernel
theorem dX5_setHeight_34 : decode cX5_setHeight 34 = .ok (.aload_n 0, 1) := by decide +kernel
theorem dX5_setHeight_35 : decode cX5_setHeight 35 = .ok (.getfield 7, 3) := by decide +kernel
theorem dX5_setHeight_38 : decode cX5_setHeight 38 = .ok (.bipush 11, 2) := by decide +kernel
theorem dX5_setHeight_40 : decode cX5_setHeight 40 = .ok (.iload_n 1, 1) := by decide +kernel
theorem dX5_setHeight_41 : decode cX5_setHeight 41 = .ok (.iadd, 1) := by decide +kernel
theorem dX5_setHeight_42 : decode cX5_setHeight 42 = .ok (.iaload, 1) := by decide +kernel
theorem dX5_setHeight_43 : decode cX5_setHeight 43 = .ok (.istore_n 3, 1) := by decide +kernel
theorem dX5_setHeight_44 : decode cX5_setHeight 44 = .ok (.aload_n 0, 1) := by decide +kernel
theorem dX5_setHeight_45 : decode cX5_setHeight 45 = .ok (.getfield 7, 3) := by decide +kernel
theorem dX5_setHeight_48 : decode cX5_setHeight 48 = .ok (.bipush 11, 2) := by decide +kernel
theorem dX5_setHeight_50 : decode cX5_setHeight 50 = .ok (.iload_n 1, 1) := by decide +kernel
theorem dX5_setHeight_51 : decode cX5_setHeight 51 = .ok (.iadd, 1) := by decide +kernel
theorem dX5_setHeight_52 : decode cX5_setHeight 52 = .ok (.iload_n 2, 1) := by decide +kernel
theorem dX5_setHeight_53 : decode cX5_setHeight 53 = .ok (.iastore, 1) := by decide +kernel
theorem dX5_setHeight_54 : decode cX5_setHeight 54 = .ok (.aload_n 0, 1) := by decide +kernel
theorem dX5_setHeight_55 : decode cX5_setHeight 55 = .ok (.iload_n 3, 1) := by decide +kernel
theorem dX5_setHeight_56 : decode cX5_setHeight 56 = .ok (.invokevirtual 40, 3) := by decide +kernel
theorem dX5_setHeight_59 : decode cX5_setHeight 59 = .ok (.ireturn, 1) := by decide +kernel
theorem dX5_isGap_0 : decode cX5_isGap 0 = .ok (.aload_n 0, 1) := by decide +kernel
theorem dX5_isGap_1 : decode cX5_isGap 1 = .ok (.getfield 7, 3) := by decide +kernel
theorem dX5_isGap_4 : decode cX5_isGap 4 = .ok (.bipush 9, 2) := by decide +kernel
theorem dX5_isGap_6 : decode cX5_isGap 6 = .ok (.iaload, 1) := by decide +kernel
theorem dX5_isGap_7 : decode cX5_isGap 7 = .ok (.iconst (-1), 1) := by decide +kernel
theorem dX5_isGap_8 : decode cX5_isGap 8 = .ok (.if_icmp .eq 27, 3) := by decide +kernel
theorem dX5_isGap_11 : decode cX5_isGap 11 = .ok (.aload_n 0, 1) := by decide +kernel
theorem dX5_isGap_12 : decode cX5_isGap 12 = .ok (.getfield 7, 3) := by decide +kernel
theorem dX5_isGap_15 : decode cX5_isGap 15 = .ok (.iconst 3, 1) := by decide +kernel
theorem dX5_isGap_16 : decode cX5_isGap 16 = .ok (.iaload, 1) := by decide +kernel
theorem dX5_isGap_17 : decode cX5_isGap 17 = .ok (.aload_n 0, 1) := by decide +kernel
theorem dX5_isGap_18 : decode cX5_isGap 18 = .ok (.getfield 7, 3) := by decide +kernel
theorem dX5_isGap_21 : decode cX5_isGap 21 = .ok (.bipush 9, 2) := by decide +kernel
theorem dX5_isGap_23 : decode cX5_isGap 23 = .ok (.iaload, 1) := by decide +kernel
theorem dX5_isGap_24 : decode cX5_isGap 24 = .ok (.isub, 1) := by decide +kernel
theorem dX5_isGap_25 : decode cX5_isGap 25 = .ok (.aload_n 0, 1) := by decide +kernel
theorem dX5_isGap_26 : decode cX5_isGap 26 = .ok (.getfield 7, 3) := by decide +kernel
theorem dX5_isGap_29 : decode cX5_isGap 29 = .ok (.bipush 6, 2) := by decide +kernel
theorem dX5_isGap_31 : decode cX5_isGap 31 = .ok (.iaload, 1) := by decide +kernel
theorem dX5_isGap_32 : decode cX5_isGap 32 = .ok (.if_icmp .lt 7, 3) := by decide +kernel
theorem dX5_isGap_35 : decode cX5_isGap 35 = .ok (.iconst 1, 1) := by decide +kernel
theorem dX5_isGap_36 : decode cX5_isGap 36 = .ok (.goto 4, 3) := by decide +kernel
theorem dX5_isGap_39 : decode cX5_isGap 39 = .ok (.iconst 0, 1) := by decide +kernel
theorem dX5_isGap_40 : decode cX5_isGap 40 = .ok (.ireturn, 1) := by decide +kernel
set_option maxRecDepth 20000 in
theorem ggX5_isAtStation_X5_of : GoodIn wsX5_isAtStation wsX5_of := goodIn_r _ [5, 6, 11, 12, 13, 14, 15, 16, 17, 18] (by decide +kernel) (by decide +kernel)
set_option maxRecDepth 20000 in
theorem gX5_isAtStation_X5_of : GoodIn wsX5_isAtStation (wsV RX5 47 RX5 yX5_of wsX5_of) := goodIn_app (goodIn_of _ (by decide +kernel)) ggX5_isAtStation_X5_of
set_option maxRecDepth 20000 in
theorem ggX5_isAtStation_X5_blockAt : GoodIn wsX5_isAtStation wsX5_blockAt := goodIn_r _ [10, 6, 11, 12, 13, 14, 15, 16, 17, 18] (by decide +kernel) (by decide +kernel)
set_option maxRecDepth 20000 in
theorem gX5_isAtStation_X5_blockAt : GoodIn wsX5_isAtStation (wsV RX5 51 RX5 yX5_blockAt wsX5_blockAt) := goodIn_app (goodIn_of _ (by decide +kernel)) ggX5_isAtStation_X5_blockAt
theorem dX5_isAtStation_0 : decode cX5_isAtStation 0 = .ok (.aload_n 0, 1) := by decide +kernel
theorem dX5_isAtStation_1 : decode cX5_isAtStation 1 = .ok (.aload_n 0, 1) := by decide +kernel
theorem dX5_isAtStation_2 : decode cX5_isAtStation 2 = .ok (.iload_n 1, 1) := by decide +kernel
theorem dX5_isAtStation_3 : decode cX5_isAtStation 3 = .ok (.iconst 0, 1) := by decide +kernel
theorem dX5_isAtStation_4 : decode cX5_isAtStation 4 = .ok (.invokevirtual 47, 3) := by decide +kernel
theorem dX5_isAtStation_7 : decode cX5_isAtStation 7 = .ok (.invokevirtual 51, 3) := by decide +kernel
theorem dX5_isAtStation_10 : decode cX5_isAtStation 10 = .ok (.ifCond .ne 7, 3) := by decide +kernel
theorem dX5_isAtStation_13 : decode cX5_isAtStation 13 = .ok (.iconst 1, 1) := by decide +kernel
theorem dX5_isAtStation_14 : decode cX5_isAtStation 14 = .ok (.goto 4, 3) := by decide +kernel
theorem dX5_isAtStation_17 : decode cX5_isAtStation 17 = .ok (.iconst 0, 1) := by decide +kernel
theorem dX5_isAtStation_18 : decode cX5_isAtStation 18 = .ok (.ireturn, 1) := by decide +kernel
set_option maxRecDepth 20000 in
theorem ggX5_holds_X5_of : GoodIn wsX5_holds wsX5_of := goodIn_r _ [6, 1, 39, 40, 41, 42, 43, 44, 45, 46] (by decide +kernel) (by decide +kernel)
set_option maxRecDepth 20000 in
theorem gX5_holds_X5_of : GoodIn wsX5_holds (wsV RX5 47 RX5 yX5_of wsX5_of) := goodIn_app (goodIn_of _ (by decide +kernel)) ggX5_holds_X5_of
set_option maxRecDepth 20000 in
theorem ggX5_holds_X5_blockAt : GoodIn wsX5_holds wsX5_blockAt := goodIn_r _ [10, 1, 39, 40, 41, 42, 43, 44, 45, 46] (by decide +kernel) (by decide +kernel)
set_option maxRecDepth 20000 in
theorem gX5_holds_X5_blockAt : GoodIn wsX5_holds (wsV RX5 51 RX5 yX5_blockAt wsX5_blockAt) := goodIn_app (goodIn_of _ (by decide +kernel)) ggX5_holds_X5_blockAt
set_option maxRecDepth 20000 in
theorem ggX5_holds_X5_nextBlock : GoodIn wsX5_holds wsX5_nextBlock := goodIn_r _ [14, 1, 39, 40, 41, 42, 43, 44, 45, 46] (by decide +kernel) (by decide +kernel)
set_option maxRecDepth 20000 in
theorem gX5_holds_X5_nextBlock : GoodIn wsX5_holds (wsV RX5 91 RX5 yX5_nextBlock wsX5_nextBlock) := goodIn_app (goodIn_of _ (by decide +kernel)) ggX5_holds_X5_nextBlock
set_option maxRecDepth 20000 in
theorem ggX5_holds_X5_isFree : GoodIn wsX5_holds wsX5_isFree := goodIn_r _ [18, 1, 19, 20, 21, 5, 22, 2, 3, 4, 6, 7, 8, 9, 10, 23, 24, 25, 26, 27, 28, 29, 30, 39, 40, 41, 42, 43, 44, 45, 46] (by decide +kernel) (by decide +kernel)
set_option maxRecDepth 20000 in
theorem gX5_holds_X5_isFree : GoodIn wsX5_holds (wsV RX5 71 RX5 yX5_isFree wsX5_isFree) := goodIn_app (goodIn_of _ (by decide +kernel)) ggX5_holds_X5_isFree
set_option maxRecDepth 20000 in
theorem ggX5_holds_X5_isAtStation : GoodIn wsX5_holds wsX5_isAtStation := goodIn_r _ [34, 2, 3, 4, 5, 6, 1, 7, 8, 9, 10, 39, 40, 41, 42, 43, 44, 45, 46] (by decide +kernel) (by decide +kernel)
set_option maxRecDepth 20000 in
theorem gX5_holds_X5_isAtStation : GoodIn wsX5_holds (wsV RX5 94 RX5 yX5_isAtStation wsX5_isAtStation) := goodIn_app (goodIn_of _ (by decide +kernel)) ggX5_holds_X5_isAtStation
set_option maxRecDepth 20000 in
theorem ggX5_holds_X5_isGap : GoodIn wsX5_holds wsX5_isGap := goodIn_r _ [38, 1, 39, 40, 41, 42, 43, 44, 45, 46] (by decide +kernel) (by decide +kernel)
set_option maxRecDepth 20000 in
theorem gX5_holds_X5_isGap : GoodIn wsX5_holds (wsV RX5 97 RX5 yX5_isGap wsX5_isGap) := goodIn_app (goodIn_of _ (by decide +kernel)) ggX5_holds_X5_isGap
theorem dX5_holds_0 : decode cX5_holds 0 = .ok (.aload_n 0, 1) := by decide +kernel
theorem dX5_holds_1 : decode cX5_holds 1 = .ok (.aload_n 0, 1) := by decide +kernel
theorem dX5_holds_2 : decode cX5_holds 2 = .ok (.aload_n 0, 1) := by decide +kernel
theorem dX5_holds_3 : decode cX5_holds 3 = .ok (.aload_n 0, 1) := by decide +kernel
theorem dX5_holds_4 : decode cX5_holds 4 = .ok (.iload_n 1, 1) := by decide +kernel
theorem dX5_holds_5 : decode cX5_holds 5 = .ok (.iconst 0, 1) := by decide +kernel
theorem dX5_holds_6 : decode cX5_holds 6 = .ok (.invokevirtual 47, 3) := by decide +kernel
theorem dX5_holds_9 : decode cX5_holds 9 = .ok (.invokevirtual 51, 3) := by decide +kernel
theorem dX5_holds_12 : decode cX5_holds 12 = .ok (.invokevirtual 91, 3) := by decide +kernel
theorem dX5_holds_15 : decode cX5_holds 15 = .ok (.invokevirtual 71, 3) := by decide +kernel
theorem dX5_holds_18 : decode cX5_holds 18 = .ok (.ifCond .ne 5, 3) := by decide +kernel
theorem dX5_holds_21 : decode cX5_holds 21 = .ok (.iconst 2, 1) := by decide +kernel
theorem dX5_holds_22 : decode cX5_holds 22 = .ok (.ireturn, 1) := by decide +kernel
theorem dX5_holds_23 : decode cX5_holds 23 = .ok (.aload_n 0, 1) := by decide +kernel
theorem dX5_holds_24 : decode cX5_holds 24 = .ok (.iload_n 1, 1) := by decide +kernel
theorem dX5_holds_25 : decode cX5_holds 25 = .ok (.invokevirtual 94, 3) := by decide +kernel
theorem dX5_holds_28 : decode cX5_holds 28 = .ok (.ifCond .ne 7, 3) := by decide +kernel
theorem dX5_holds_31 : decode cX5_holds 31 = .ok (.iconst 5, 1) := by decide +kernel
theorem dX5_holds_32 : decode cX5_holds 32 = .ok (.goto 29, 3) := by decide +kernel
theorem dX5_holds_35 : decode cX5_holds 35 = .ok (.iload_n 2, 1) := by decide +kernel
theorem dX5_holds_36 : decode cX5_holds 36 = .ok (.aload_n 0, 1) := by decide +kernel
theorem dX5_holds_37 : decode cX5_holds 37 = .ok (.getfield 7, 3) := by decide +kernel
theorem dX5_holds_40 : decode cX5_holds 40 = .ok (.iconst 5, 1) := by decide +kernel
theorem dX5_holds_41 : decode cX5_holds 41 = .ok (.iaload, 1) := by decide +kernel
theorem dX5_holds_42 : decode cX5_holds 42 = .ok (.if_icmp .ge 7, 3) := by decide +kernel
theorem dX5_holds_45 : decode cX5_holds 45 = .ok (.iconst 3, 1) := by decide +kernel
theorem dX5_holds_46 : decode cX5_holds 46 = .ok (.goto 15, 3) := by decide +kernel
theorem dX5_holds_49 : decode cX5_holds 49 = .ok (.aload_n 0, 1) := by decide +kernel
theorem dX5_holds_50 : decode cX5_holds 50 = .ok (.invokevirtual 97, 3) := by decide +kernel
theorem dX5_holds_53 : decode cX5_holds 53 = .ok (.ifCond .eq 7, 3) := by decide +kernel
theorem dX5_holds_56 : decode cX5_holds 56 = .ok (.iconst 5, 1) := by decide +kernel
theorem dX5_holds_57 : decode cX5_holds 57 = .ok (.goto 4, 3) := by decide +kernel
theorem dX5_holds_60 : decode cX5_holds 60 = .ok (.iconst 4, 1) := by decide +kernel
theorem dX5_holds_61 : decode cX5_holds 61 = .ok (.ireturn, 1) := by decide +kernel
theorem dX5_dispatches_0 : decode cX5_dispatches 0 = .ok (.aload_n 0, 1) := by decide +kernel
theorem dX5_dispatches_1 : decode cX5_dispatches 1 = .ok (.getfield 7, 3) := by decide +kernel
theorem dX5_dispatches_4 : decode cX5_dispatches 4 = .ok (.bipush 10, 2) := by decide +kernel
theorem dX5_dispatches_6 : decode cX5_dispatches 6 = .ok (.iaload, 1) := by decide +kernel
theorem dX5_dispatches_7 : decode cX5_dispatches 7 = .ok (.bipush 30, 2) := by decide +kernel
theorem dX5_dispatches_9 : decode cX5_dispatches 9 = .ok (.if_icmp .ne 44, 3) := by decide +kernel
theorem dX5_dispatches_12 : decode cX5_dispatches 12 = .ok (.bipush 111, 2) := by decide +kernel
theorem dX5_dispatches_14 : decode cX5_dispatches 14 = .ok (.istore_n 2, 1) := by decide +kernel
theorem dX5_dispatches_15 : decode cX5_dispatches 15 = .ok (.iload_n 2, 1) := by decide +kernel
theorem dX5_dispatches_16 : decode cX5_dispatches 16 = .ok (.sipush 169, 3) := by decide +kernel
theorem dX5_dispatches_19 : decode cX5_dispatches 19 = .ok (.if_icmp .ge 23, 3) := by decide +kernel
theorem dX5_dispatches_22 : decode cX5_dispatches 22 = .ok (.aload_n 0, 1) := by decide +kernel
theorem dX5_dispatches_23 : decode cX5_dispatches 23 = .ok (.getfield 7, 3) := by decide +kernel
theorem dX5_dispatches_26 : decode cX5_dispatches 26 = .ok (.iload_n 2, 1) := by decide +kernel
theorem dX5_dispatches_27 : decode cX5_dispatches 27 = .ok (.aload_n 0, 1) := by decide +kernel
theorem dX5_dispatches_28 : decode cX5_dispatches 28 = .ok (.getfield 7, 3) := by decide +kernel
theorem dX5_dispatches_31 : decode cX5_dispatches 31 = .ok (.iload_n 2, 1) := by decide +kernel
theorem dX5_dispatches_32 : decode cX5_dispatches 32 = .ok (.iconst 2, 1) := by decide +kernel
theorem dX5_dispatches_33 : decode cX5_dispatches 33 = .ok (.iadd, 1) := by decide +kernel
theorem dX5_dispatches_34 : decode cX5_dispatches 34 = .ok (.iaload, 1) := by decide +kernel
theorem dX5_dispatches_35 : decode cX5_dispatches 35 = .ok (.iastore, 1) := by decide +kernel
theorem dX5_dispatches_36 : decode cX5_dispatches 36 = .ok (.iinc 2 1, 3) := by decide +kernel
theorem dX5_dispatches_39 : decode cX5_dispatches 39 = .ok (.goto (-24), 3) := by decide +kernel
theorem dX5_dispatches_42 : decode cX5_dispatches 42 = .ok (.aload_n 0, 1) := by decide +kernel
theorem dX5_dispatches_43 : decode cX5_dispatches 43 = .ok (.getfield 7, 3) := by decide +kernel
theorem dX5_dispatches_46 : decode cX5_dispatches 46 = .ok (.bipush 10, 2) := by decide +kernel
theorem dX5_dispatches_48 : decode cX5_dispatches 48 = .ok (.dup2, 1) := by decide +kernel
theorem dX5_dispatches_49 : decode cX5_dispatches 49 = .ok (.iaload, 1) := by decide +kernel
theorem dX5_dispatches_50 : decode cX5_dispatches 50 = .ok (.iconst 1, 1) := by decide +kernel
theorem dX5_dispatches_51 : decode cX5_dispatches 51 = .ok (.isub, 1) := by decide +kernel
theorem dX5_dispatches_52 : decode cX5_dispatches 52 = .ok (.iastore, 1) := by decide +kernel
theorem dX5_dispatches_53 : decode cX5_dispatches 53 = .ok (.aload_n 0, 1) := by decide +kernel
theorem dX5_dispatches_54 : decode cX5_dispatches 54 = .ok (.getfield 7, 3) := by decide +kernel
theorem dX5_dispatches_57 : decode cX5_dispatches 57 = .ok (.bipush 111, 2) := by decide +kernel
theorem dX5_dispatches_59 : decode cX5_dispatches 59 = .ok (.iconst 2, 1) := by decide +kernel
theorem dX5_dispatches_60 : decode cX5_dispatches 60 = .ok (.aload_n 0, 1) := by decide +kernel
theorem dX5_dispatches_61 : decode cX5_dispatches 61 = .ok (.getfield 7, 3) := by decide +kernel
theorem dX5_dispatches_64 : decode cX5_dispatches 64 = .ok (.bipush 10, 2) := by decide +kernel
theorem dX5_dispatches_66 : decode cX5_dispatches 66 = .ok (.iaload, 1) := by decide +kernel
theorem dX5_dispatches_67 : decode cX5_dispatches 67 = .ok (.imul, 1) := by decide +kernel
theorem dX5_dispatches_68 : decode cX5_dispatches 68 = .ok (.iadd, 1) := by decide +kernel
theorem dX5_dispatches_69 : decode cX5_dispatches 69 = .ok (.aload_n 0, 1) := by decide +kernel
theorem dX5_dispatches_70 : decode cX5_dispatches 70 = .ok (.getfield 7, 3) := by decide +kernel
theorem dX5_dispatches_73 : decode cX5_dispatches 73 = .ok (.iconst 3, 1) := by decide +kernel
theorem dX5_dispatches_74 : decode cX5_dispatches 74 = .ok (.iaload, 1) := by decide +kernel
theorem dX5_dispatches_75 : decode cX5_dispatches 75 = .ok (.iastore, 1) := by decide +kernel
theorem dX5_dispatches_76 : decode cX5_dispatches 76 = .ok (.aload_n 0, 1) := by decide +kernel
theorem dX5_dispatches_77 : decode cX5_dispatches 77 = .ok (.getfield 7, 3) := by decide +kernel
theorem dX5_dispatches_80 : decode cX5_dispatches 80 = .ok (.bipush 111, 2) := by decide +kernel
theorem dX5_dispatches_82 : decode cX5_dispatches 82 = .ok (.iconst 2, 1) := by decide +kernel
theorem dX5_dispatches_83 : decode cX5_dispatches 83 = .ok (.aload_n 0, 1) := by decide +kernel
theorem dX5_dispatches_84 : decode cX5_dispatches 84 = .ok (.getfield 7, 3) := by decide +kernel
theorem dX5_dispatches_87 : decode cX5_dispatches 87 = .ok (.bipush 10, 2) := by decide +kernel
theorem dX5_dispatches_89 : decode cX5_dispatches 89 = .ok (.iaload, 1) := by decide +kernel
theorem dX5_dispatches_90 : decode cX5_dispatches 90 = .ok (.imul, 1) := by decide +kernel
theorem dX5_dispatches_91 : decode cX5_dispatches 91 = .ok (.iadd, 1) := by decide +kernel
theorem dX5_dispatches_92 : decode cX5_dispatches 92 = .ok (.iconst 1, 1) := by decide +kernel
theorem dX5_dispatches_93 : decode cX5_dispatches 93 = .ok (.iadd, 1) := by decide +kernel
theorem dX5_dispatches_94 : decode cX5_dispatches 94 = .ok (.iload_n 1, 1) := by decide +kernel
theorem dX5_dispatches_95 : decode cX5_dispatches 95 = .ok (.iastore, 1) := by decide +kernel
theorem dX5_dispatches_96 : decode cX5_dispatches 96 = .ok (.aload_n 0, 1) := by decide +kernel
theorem dX5_dispatches_97 : decode cX5_dispatches 97 = .ok (.getfield 7, 3) := by decide +kernel
theorem dX5_dispatches_100 : decode cX5_dispatches 100 = .ok (.bipush 10, 2) := by decide +kernel
theorem dX5_dispatches_102 : decode cX5_dispatches 102 = .ok (.dup2, 1) := by decide +kernel
theorem dX5_dispatches_103 : decode cX5_dispatches 103 = .ok (.iaload, 1) := by decide +kernel
theorem dX5_dispatches_104 : decode cX5_dispatches 104 = .ok (.iconst 1, 1) := by decide +kernel
theorem dX5_dispatches_105 : decode cX5_dispatches 105 = .ok (.iadd, 1) := by decide +kernel
theorem dX5_dispatches_106 : decode cX5_dispatches 106 = .ok (.iastore, 1) := by decide +kernel
theorem dX5_dispatches_107 : decode cX5_dispatches 107 = .ok (.aload_n 0, 1) := by decide +kernel
theorem dX5_dispatches_108 : decode cX5_dispatches 108 = .ok (.getfield 7, 3) := by decide +kernel
theorem dX5_dispatches_111 : decode cX5_dispatches 111 = .ok (.bipush 8, 2) := by decide +kernel
theorem dX5_dispatches_113 : decode cX5_dispatches 113 = .ok (.dup2, 1) := by decide +kernel
theorem dX5_dispatches_114 : decode cX5_dispatches 114 = .ok (.iaload, 1) := by decide +kernel
theorem dX5_dispatches_115 : decode cX5_dispatches 115 = .ok (.iconst 1, 1) := by decide +kernel
theorem dX5_dispatches_116 : decode cX5_dispatches 116 = .ok (.iadd, 1) := by decide +kernel
theorem dX5_dispatches_117 : decode cX5_dispatches 117 = .ok (.iastore, 1) := by decide +kernel
theorem dX5_dispatches_118 : decode cX5_dispatches 118 = .ok (.aload_n 0, 1) := by decide +kernel
theorem dX5_dispatches_119 : decode cX5_dispatches 119 = .ok (.getfield 7, 3) := by decide +kernel
theorem dX5_dispatches_122 : decode cX5_dispatches 122 = .ok (.bipush 9, 2) := by decide +kernel
theorem dX5_dispatches_124 : decode cX5_dispatches 124 = .ok (.aload_n 0, 1) := by decide +kernel
theorem dX5_dispatches_125 : decode cX5_dispatches 125 = .ok (.getfield 7, 3) := by decide +kernel
theorem dX5_dispatches_128 : decode cX5_dispatches 128 = .ok (.iconst 3, 1) := by decide +kernel
theorem dX5_dispatches_129 : decode cX5_dispatches 129 = .ok (.iaload, 1) := by decide +kernel
theorem dX5_dispatches_130 : decode cX5_dispatches 130 = .ok (.iastore, 1) := by decide +kernel
theorem dX5_dispatches_131 : decode cX5_dispatches 131 = .ok (.return_, 1) := by decide +kernel
set_option maxRecDepth 20000 in
theorem ggX5_waits_X5_of : GoodIn wsX5_waits wsX5_of := goodIn_r _ [5, 6, 51, 52, 53, 54, 55, 56, 57, 58] (by decide +kernel) (by decide +kernel)
set_option maxRecDepth 20000 in
theorem gX5_waits_X5_of : GoodIn wsX5_waits (wsV RX5 47 RX5 yX5_of wsX5_of) := goodIn_app (goodIn_of _ (by decide +kernel)) ggX5_waits_X5_of
set_option maxRecDepth 20000 in
theorem ggX5_waits_X5_put : GoodIn wsX5_waits wsX5_put := goodIn_r _ [10, 6, 51, 52, 53, 54, 55, 56, 57, 58] (by decide +kernel) (by decide +kernel)
set_option maxRecDepth 20000 in
theorem gX5_waits_X5_put : GoodIn wsX5_waits (wsV RX5 63 RX5 yX5_put wsX5_put) := goodIn_app (goodIn_of _ (by decide +kernel)) ggX5_waits_X5_put
set_option maxRecDepth 20000 in
theorem ggX5_waits_X5_holds : GoodIn wsX5_waits wsX5_holds := goodIn_r _ [14, 6, 1, 2, 3, 4, 5, 15, 16, 17, 18, 19, 20, 21, 22, 23, 24, 25, 26, 27, 28, 29, 30, 31, 32, 33, 34, 35, 36, 37, 38, 39, 40, 41, 42, 43, 44, 45, 46, 51, 52, 53, 54, 55, 56, 57, 58] (by decide +kernel) (by decide +kernel)
set_option maxRecDepth 20000 in
theorem gX5_waits_X5_holds : GoodIn wsX5_waits (wsV RX5 101 RX5 yX5_holds wsX5_holds) := goodIn_app (goodIn_of _ (by decide +kernel)) ggX5_waits_X5_holds
set_option maxRecDepth 20000 in
theorem ggX5_waits_X5_isAtStation : GoodIn wsX5_waits wsX5_isAtStation := goodIn_r _ [42, 1, 2, 3, 4, 5, 6, 15, 16, 17, 18, 51, 52, 53, 54, 55, 56, 57, 58] (by decide +kernel) (by decide +kernel)
set_option maxRecDepth 20000 in
theorem gX5_waits_X5_isAtStation : GoodIn wsX5_waits (wsV RX5 94 RX5 yX5_isAtStation wsX5_isAtStation) := goodIn_app (goodIn_of _ (by decide +kernel)) ggX5_waits_X5_isAtStation
set_option maxRecDepth 20000 in
theorem ggX5_waits_X5_dispatches : GoodIn wsX5_waits wsX5_dispatches := goodIn_r _ [50, 6, 51, 52, 53, 54, 55, 56, 57, 58] (by decide +kernel) (by decide +kernel)
set_option maxRecDepth 20000 in
theorem gX5_waits_X5_dispatches : GoodIn wsX5_waits (wsV RX5 104 RX5 yX5_dispatches wsX5_dispatches) := goodIn_app (goodIn_of _ (by decide +kernel)) ggX5_waits_X5_dispatches
theorem dX5_waits_0 : decode cX5_waits 0 = .ok (.aload_n 0, 1) := by decide +kernel
theorem dX5_waits_1 : decode cX5_waits 1 = .ok (.iload_n 1, 1) := by decide +kernel
theorem dX5_waits_2 : decode cX5_waits 2 = .ok (.iconst 5, 1) := by decide +kernel
theorem dX5_waits_3 : decode cX5_waits 3 = .ok (.aload_n 0, 1) := by decide +kernel
theorem dX5_waits_4 : decode cX5_waits 4 = .ok (.iload_n 1, 1) := by decide +kernel
theorem dX5_waits_5 : decode cX5_waits 5 = .ok (.iconst 5, 1) := by decide +kernel
theorem dX5_waits_6 : decode cX5_waits 6 = .ok (.invokevirtual 47, 3) := by decide +kernel
theorem dX5_waits_9 : decode cX5_waits 9 = .ok (.iconst 1, 1) := by decide +kernel
theorem dX5_waits_10 : decode cX5_waits 10 = .ok (.iadd, 1) := by decide +kernel
theorem dX5_waits_11 : decode cX5_waits 11 = .ok (.invokevirtual 63, 3) := by decide +kernel
theorem dX5_waits_14 : decode cX5_waits 14 = .ok (.aload_n 0, 1) := by decide +kernel
theorem dX5_waits_15 : decode cX5_waits 15 = .ok (.iload_n 1, 1) := by decide +kernel
theorem dX5_waits_16 : decode cX5_waits 16 = .ok (.aload_n 0, 1) := by decide +kernel
theorem dX5_waits_17 : decode cX5_waits 17 = .ok (.iload_n 1, 1) := by decide +kernel
theorem dX5_waits_18 : decode cX5_waits 18 = .ok (.iconst 5, 1) := by decide +kernel
theorem dX5_waits_19 : decode cX5_waits 19 = .ok (.invokevirtual 47, 3) := by decide +kernel
theorem dX5_waits_22 : decode cX5_waits 22 = .ok (.invokevirtual 101, 3) := by decide +kernel
theorem dX5_waits_25 : decode cX5_waits 25 = .ok (.iconst 5, 1) := by decide +kernel
theorem dX5_waits_26 : decode cX5_waits 26 = .ok (.if_icmp .eq 4, 3) := by decide +kernel
theorem dX5_waits_29 : decode cX5_waits 29 = .ok (.return_, 1) := by decide +kernel
theorem dX5_waits_30 : decode cX5_waits 30 = .ok (.aload_n 0, 1) := by decide +kernel
theorem dX5_waits_31 : decode cX5_waits 31 = .ok (.iload_n 1, 1) := by decide +kernel
theorem dX5_waits_32 : decode cX5_waits 32 = .ok (.invokevirtual 94, 3) := by decide +kernel
theorem dX5_waits_35 : decode cX5_waits 35 = .ok (.ifCond .eq 8, 3) := by decide +kernel
theorem dX5_waits_38 : decode cX5_waits 38 = .ok (.aload_n 0, 1) := by decide +kernel
theorem dX5_waits_39 : decode cX5_waits 39 = .ok (.iload_n 1, 1) := by decide +kernel
theorem dX5_waits_40 : decode cX5_waits 40 = .ok (.invokevirtual 104, 3) := by decide +kernel
theorem dX5_waits_43 : decode cX5_waits 43 = .ok (.aload_n 0, 1) := by decide +kernel
theorem dX5_waits_44 : decode cX5_waits 44 = .ok (.iload_n 1, 1) := by decide +kernel
theorem dX5_waits_45 : decode cX5_waits 45 = .ok (.iconst 4, 1) := by decide +kernel
theorem dX5_waits_46 : decode cX5_waits 46 = .ok (.iconst 0, 1) := by decide +kernel
theorem dX5_waits_47 : decode cX5_waits 47 = .ok (.invokevirtual 63, 3) := by decide +kernel
theorem dX5_waits_50 : decode cX5_waits 50 = .ok (.aload_n 0, 1) := by decide +kernel
theorem dX5_waits_51 : decode cX5_waits 51 = .ok (.iload_n 1, 1) := by decide +kernel
theorem dX5_waits_52 : decode cX5_waits 52 = .ok (.iconst 1, 1) := by decide +kernel
theorem dX5_waits_53 : decode cX5_waits 53 = .ok (.bipush 25, 2) := by decide +kernel
theorem dX5_waits_55 : decode cX5_waits 55 = .ok (.invokevirtual 63, 3) := by decide +kernel
theorem dX5_waits_58 : decode cX5_waits 58 = .ok (.aload_n 0, 1) := by decide +kernel
theorem dX5_waits_59 : decode cX5_waits 59 = .ok (.iload_n 1, 1) := by decide +kernel
theorem dX5_waits_60 : decode cX5_waits 60 = .ok (.iconst 2, 1) := by decide +kernel
theorem dX5_waits_61 : decode cX5_waits 61 = .ok (.iconst 0, 1) := by decide +kernel
theorem dX5_waits_62 : decode cX5_waits 62 = .ok (.invokevirtual 63, 3) := by decide +kernel
theorem dX5_waits_65 : decode cX5_waits 65 = .ok (.aload_n 0, 1) := by decide +kernel
theorem dX5_waits_66 : decode cX5_waits 66 = .ok (.iload_n 1, 1) := by decide +kernel
theorem dX5_waits_67 : decode cX5_waits 67 = .ok (.iconst 5, 1) := by decide +kernel
theorem dX5_waits_68 : decode cX5_waits 68 = .ok (.iconst 0, 1) := by decide +kernel
theorem dX5_waits_69 : decode cX5_waits 69 = .ok (.invokevirtual 63, 3) := by decide +kernel
theorem dX5_waits_72 : decode cX5_waits 72 = .ok (.return_, 1) := by decide +kernel
set_option maxRecDepth 20000 in
theorem ggX5_comes_X5_of : GoodIn wsX5_comes wsX5_of := goodIn_r _ [6, 1, 39, 40, 41, 42, 43, 44, 45, 46] (by decide +kernel) (by decide +kernel)
set_option maxRecDepth 20000 in
theorem gX5_comes_X5_of : GoodIn wsX5_comes (wsV RX5 47 RX5 yX5_of wsX5_of) := goodIn_app (goodIn_of _ (by decide +kernel)) ggX5_comes_X5_of
set_option maxRecDepth 20000 in
theorem ggX5_comes_X5_blockAt : GoodIn wsX5_comes wsX5_blockAt := goodIn_r _ [10, 1, 39, 40, 41, 42, 43, 44, 45, 46] (by decide +kernel) (by decide +kernel)
set_option maxRecDepth 20000 in
theorem gX5_comes_X5_blockAt : GoodIn wsX5_comes (wsV RX5 51 RX5 yX5_blockAt wsX5_blockAt) := goodIn_app (goodIn_of _ (by decide +kernel)) ggX5_comes_X5_blockAt
set_option maxRecDepth 20000 in
theorem ggX5_comes_X5_stands : GoodIn wsX5_comes wsX5_stands := goodIn_r _ [14, 15, 16, 17, 5, 18, 1, 39, 40, 41, 42, 43, 44, 45, 46] (by decide +kernel) (by decide +kernel)
set_option maxRecDepth 20000 in
theorem gX5_comes_X5_stands : GoodIn wsX5_comes (wsV RX5 77 RX5 yX5_stands wsX5_stands) := goodIn_app (goodIn_of _ (by decide +kernel)) ggX5_comes_X5_stands
set_option maxRecDepth 20000 in
theorem ggX5_comes_X5_nextBlock : GoodIn wsX5_comes wsX5_nextBlock := goodIn_r _ [22, 1, 39, 40, 41, 42, 43, 44, 45, 46] (by decide +kernel) (by decide +kernel)
set_option maxRecDepth 20000 in
theorem gX5_comes_X5_nextBlock : GoodIn wsX5_comes (wsV RX5 91 RX5 yX5_nextBlock wsX5_nextBlock) := goodIn_app (goodIn_of _ (by decide +kernel)) ggX5_comes_X5_nextBlock
set_option maxRecDepth 20000 in
theorem ggX5_comes_X5_isFree : GoodIn wsX5_comes wsX5_isFree := goodIn_r _ [26, 1, 27, 28, 29, 5, 30, 2, 3, 4, 6, 7, 8, 9, 10, 31, 32, 33, 34, 35, 36, 37, 38, 39, 40, 41, 42, 43, 44, 45, 46] (by decide +kernel) (by decide +kernel)
set_option maxRecDepth 20000 in
theorem gX5_comes_X5_isFree : GoodIn wsX5_comes (wsV RX5 71 RX5 yX5_isFree wsX5_isFree) := goodIn_app (goodIn_of _ (by decide +kernel)) ggX5_comes_X5_isFree
set_option maxRecDepth 20000 in
theorem ggX5_comes_X5_put : GoodIn wsX5_comes wsX5_put := goodIn_r _ [18, 1, 39, 40, 41, 42, 43, 44, 45, 46] (by decide +kernel) (by decide +kernel)
set_option maxRecDepth 20000 in
theorem gX5_comes_X5_put : GoodIn wsX5_comes (wsV RX5 63 RX5 yX5_put wsX5_put) := goodIn_app (goodIn_of _ (by decide +kernel)) ggX5_comes_X5_put
theorem dX5_comes_0 : decode cX5_comes 0 = .ok (.aload_n 0, 1) := by decide +kernel
theorem dX5_comes_1 : decode cX5_comes 1 = .ok (.aload_n 0, 1) := by decide +kernel
theorem dX5_comes_2 : decode cX5_comes 2 = .ok (.iload_n 1, 1) := by decide +kernel
theorem dX5_comes_3 : decode cX5_comes 3 = .ok (.iconst 0, 1) := by decide +kernel
theorem dX5_comes_4 : decode cX5_comes 4 = .ok (.invokevirtual 47, 3) := by decide +kernel
theorem dX5_comes_7 : decode cX5_comes 7 = .ok (.invokevirtual 51, 3) := by decide +kernel
theorem dX5_comes_10 : decode cX5_comes 10 = .ok (.istore_n 2, 1) := by decide +kernel
theorem dX5_comes_11 : decode cX5_comes 11 = .ok (.aload_n 0, 1) := by decide +kernel
theorem dX5_comes_12 : decode cX5_comes 12 = .ok (.iload_n 1, 1) := by decide +kernel
theorem dX5_comes_13 : decode cX5_comes 13 = .ok (.invokevirtual 77, 3) := by decide +kernel
theorem dX5_comes_16 : decode cX5_comes 16 = .ok (.aload_n 0, 1) := by decide +kernel
theorem dX5_comes_17 : decode cX5_comes 17 = .ok (.getfield 7, 3) := by decide +kernel
theorem dX5_comes_20 : decode cX5_comes 20 = .ok (.bipush 71, 2) := by decide +kernel
theorem dX5_comes_22 : decode cX5_comes 22 = .ok (.iload_n 2, 1) := by decide +kernel
theorem dX5_comes_23 : decode cX5_comes 23 = .ok (.iadd, 1) := by decide +kernel
theorem dX5_comes_24 : decode cX5_comes 24 = .ok (.dup2, 1) := by decide +kernel
theorem dX5_comes_25 : decode cX5_comes 25 = .ok (.iaload, 1) := by decide +kernel
theorem dX5_comes_26 : decode cX5_comes 26 = .ok (.aload_n 0, 1) := by decide +kernel
theorem dX5_comes_27 : decode cX5_comes 27 = .ok (.aload_n 0, 1) := by decide +kernel
theorem dX5_comes_28 : decode cX5_comes 28 = .ok (.iload_n 2, 1) := by decide +kernel
theorem dX5_comes_29 : decode cX5_comes 29 = .ok (.invokevirtual 91, 3) := by decide +kernel
theorem dX5_comes_32 : decode cX5_comes 32 = .ok (.invokevirtual 71, 3) := by decide +kernel
theorem dX5_comes_35 : decode cX5_comes 35 = .ok (.ifCond .eq 7, 3) := by decide +kernel
theorem dX5_comes_38 : decode cX5_comes 38 = .ok (.iconst 0, 1) := by decide +kernel
theorem dX5_comes_39 : decode cX5_comes 39 = .ok (.goto 4, 3) := by decide +kernel
theorem dX5_comes_42 : decode cX5_comes 42 = .ok (.iconst 1, 1) := by decide +kernel
theorem dX5_comes_43 : decode cX5_comes 43 = .ok (.iadd, 1) := by decide +kernel
theorem dX5_comes_44 : decode cX5_comes 44 = .ok (.iastore, 1) := by decide +kernel
theorem dX5_comes_45 : decode cX5_comes 45 = .ok (.aload_n 0, 1) := by decide +kernel
theorem dX5_comes_46 : decode cX5_comes 46 = .ok (.iload_n 1, 1) := by decide +kernel
theorem dX5_comes_47 : decode cX5_comes 47 = .ok (.bipush 7, 2) := by decide +kernel
theorem dX5_comes_49 : decode cX5_comes 49 = .ok (.aload_n 0, 1) := by decide +kernel
theorem dX5_comes_50 : decode cX5_comes 50 = .ok (.iload_n 1, 1) := by decide +kernel
theorem dX5_comes_51 : decode cX5_comes 51 = .ok (.bipush 7, 2) := by decide +kernel
theorem dX5_comes_53 : decode cX5_comes 53 = .ok (.invokevirtual 47, 3) := by decide +kernel
theorem dX5_comes_56 : decode cX5_comes 56 = .ok (.iload_n 2, 1) := by decide +kernel
theorem dX5_comes_57 : decode cX5_comes 57 = .ok (.ifCond .ne 7, 3) := by decide +kernel
theorem dX5_comes_60 : decode cX5_comes 60 = .ok (.iconst 1, 1) := by decide +kernel
theorem dX5_comes_61 : decode cX5_comes 61 = .ok (.goto 4, 3) := by decide +kernel
theorem dX5_comes_64 : decode cX5_comes 64 = .ok (.iconst 0, 1) := by decide +kernel
theorem dX5_comes_65 : decode cX5_comes 65 = .ok (.iadd, 1) := by decide +kernel
theorem dX5_comes_66 : decode cX5_comes 66 = .ok (.invokevirtual 63, 3) := by decide +kernel
theorem dX5_comes_69 : decode cX5_comes 69 = .ok (.return_, 1) := by decide +kernel
theorem dX5_squareOn_0 : decode cX5_squareOn 0 = .ok (.aload_n 0, 1) := by decide +kernel
theorem dX5_squareOn_1 : decode cX5_squareOn 1 = .ok (.getfield 7, 3) := by decide +kernel
theorem dX5_squareOn_4 : decode cX5_squareOn 4 = .ok (.bipush 41, 2) := by decide +kernel
theorem dX5_squareOn_6 : decode cX5_squareOn 6 = .ok (.iload_n 2, 1) := by decide +kernel
theorem dX5_squareOn_7 : decode cX5_squareOn 7 = .ok (.iadd, 1) := by decide +kernel
theorem dX5_squareOn_8 : decode cX5_squareOn 8 = .ok (.iaload, 1) := by decide +kernel
theorem dX5_squareOn_9 : decode cX5_squareOn 9 = .ok (.iconst 1, 1) := by decide +kernel
theorem dX5_squareOn_10 : decode cX5_squareOn 10 = .ok (.if_icmp .ne 8, 3) := by decide +kernel
theorem dX5_squareOn_13 : decode cX5_squareOn 13 = .ok (.bipush 25, 2) := by decide +kernel
theorem dX5_squareOn_15 : decode cX5_squareOn 15 = .ok (.goto 33, 3) := by decide +kernel
theorem dX5_squareOn_18 : decode cX5_squareOn 18 = .ok (.iload_n 3, 1) := by decide +kernel
theorem dX5_squareOn_19 : decode cX5_squareOn 19 = .ok (.bipush 100, 2) := by decide +kernel
theorem dX5_squareOn_21 : decode cX5_squareOn 21 = .ok (.aload_n 0, 1) := by decide +kernel
theorem dX5_squareOn_22 : decode cX5_squareOn 22 = .ok (.getfield 7, 3) := by decide +kernel
theorem dX5_squareOn_25 : decode cX5_squareOn 25 = .ok (.bipush 11, 2) := by decide +kernel
theorem dX5_squareOn_27 : decode cX5_squareOn 27 = .ok (.iload_n 1, 1) := by decide +kernel
theorem dX5_squareOn_28 : decode cX5_squareOn 28 = .ok (.iadd, 1) := by decide +kernel
theorem dX5_squareOn_29 : decode cX5_squareOn 29 = .ok (.iaload, 1) := by decide +kernel
theorem dX5_squareOn_30 : decode cX5_squareOn 30 = .ok (.imul, 1) := by decide +kernel
theorem dX5_squareOn_31 : decode cX5_squareOn 31 = .ok (.iadd, 1) := by decide +kernel
theorem dX5_squareOn_32 : decode cX5_squareOn 32 = .ok (.bipush 100, 2) := by decide +kernel
theorem dX5_squareOn_34 : decode cX5_squareOn 34 = .ok (.aload_n 0, 1) := by decide +kernel
theorem dX5_squareOn_35 : decode cX5_squareOn 35 = .ok (.getfield 7, 3) := by decide +kernel
theorem dX5_squareOn_38 : decode cX5_squareOn 38 = .ok (.bipush 11, 2) := by decide +kernel
theorem dX5_squareOn_40 : decode cX5_squareOn 40 = .ok (.iload_n 2, 1) := by decide +kernel
theorem dX5_squareOn_41 : decode cX5_squareOn 41 = .ok (.iadd, 1) := by decide +kernel
theorem dX5_squareOn_42 : decode cX5_squareOn 42 = .ok (.iaload, 1) := by decide +kernel
theorem dX5_squareOn_43 : decode cX5_squareOn 43 = .ok (.imul, 1) := by decide +kernel
theorem dX5_squareOn_44 : decode cX5_squareOn 44 = .ok (.isub, 1) := by decide +kernel
theorem dX5_squareOn_45 : decode cX5_squareOn 45 = .ok (.iload 4, 2) := by decide +kernel
theorem dX5_squareOn_47 : decode cX5_squareOn 47 = .ok (.isub, 1) := by decide +kernel
theorem dX5_squareOn_48 : decode cX5_squareOn 48 = .ok (.istore 5, 2) := by decide +kernel
theorem dX5_squareOn_50 : decode cX5_squareOn 50 = .ok (.iload 5, 2) := by decide +kernel
theorem dX5_squareOn_52 : decode cX5_squareOn 52 = .ok (.sipush 9999, 3) := by decide +kernel
theorem dX5_squareOn_55 : decode cX5_squareOn 55 = .ok (.if_icmp .le 9, 3) := by decide +kernel
theorem dX5_squareOn_58 : decode cX5_squareOn 58 = .ok (.sipush 9999, 3) := by decide +kernel
theorem dX5_squareOn_61 : decode cX5_squareOn 61 = .ok (.goto 5, 3) := by decide +kernel
theorem dX5_squareOn_64 : decode cX5_squareOn 64 = .ok (.iload 5, 2) := by decide +kernel
theorem dX5_squareOn_66 : decode cX5_squareOn 66 = .ok (.ireturn, 1) := by decide +kernel
set_option maxRecDepth 20000 in
theorem ggX5_moves_X5_of : GoodIn wsX5_moves wsX5_of := goodIn_r _ [6, 1, 59, 60, 61, 62, 63, 64, 65, 66] (by decide +kernel) (by decide +kernel)
set_option maxRecDepth 20000 in
theorem gX5_moves_X5_of : GoodIn wsX5_moves (wsV RX5 47 RX5 yX5_of wsX5_of) := goodIn_app (goodIn_of _ (by decide +kernel)) ggX5_moves_X5_of
set_option maxRecDepth 20000 in
theorem ggX5_moves_X5_after : GoodIn wsX5_moves wsX5_after := goodIn_r _ [10, 1, 59, 60, 61, 62, 63, 64, 65, 66] (by decide +kernel) (by decide +kernel)
set_option maxRecDepth 20000 in
theorem gX5_moves_X5_after : GoodIn wsX5_moves (wsV RX5 107 RX5 yX5_after wsX5_after) := goodIn_app (goodIn_of _ (by decide +kernel)) ggX5_moves_X5_after
set_option maxRecDepth 20000 in
theorem ggX5_moves_X5_drag : GoodIn wsX5_moves wsX5_drag := goodIn_r _ [14, 1, 2, 3, 4, 5, 6, 59, 60, 61, 62, 63, 64, 65, 66] (by decide +kernel) (by decide +kernel)
set_option maxRecDepth 20000 in
theorem gX5_moves_X5_drag : GoodIn wsX5_moves (wsV RX5 110 RX5 yX5_drag wsX5_drag) := goodIn_app (goodIn_of _ (by decide +kernel)) ggX5_moves_X5_drag
set_option maxRecDepth 20000 in
theorem ggX5_moves_X5_squareOn : GoodIn wsX5_moves wsX5_squareOn := goodIn_r _ [18, 1, 59, 60, 61, 62, 63, 64, 65, 66] (by decide +kernel) (by decide +kernel)
set_option maxRecDepth 20000 in
theorem gX5_moves_X5_squareOn : GoodIn wsX5_moves (wsV RX5 113 RX5 yX5_squareOn wsX5_squareOn) := goodIn_app (goodIn_of _ (by decide +kernel)) ggX5_moves_X5_squareOn
set_option maxRecDepth 20000 in
theorem ggX5_moves_X5_lies : GoodIn wsX5_moves wsX5_lies := goodIn_r _ [22, 23, 24, 25, 5, 26, 1, 59, 60, 61, 62, 63, 64, 65, 66] (by decide +kernel) (by decide +kernel)
set_option maxRecDepth 20000 in
theorem gX5_moves_X5_lies : GoodIn wsX5_moves (wsV RX5 117 RX5 yX5_lies wsX5_lies) := goodIn_app (goodIn_of _ (by decide +kernel)) ggX5_moves_X5_lies
set_option maxRecDepth 20000 in
theorem ggX5_moves_X5_put : GoodIn wsX5_moves wsX5_put := goodIn_r _ [26, 1, 59, 60, 61, 62, 63, 64, 65, 66] (by decide +kernel) (by decide +kernel)
set_option maxRecDepth 20000 in
theorem gX5_moves_X5_put : GoodIn wsX5_moves (wsV RX5 63 RX5 yX5_put wsX5_put) := goodIn_app (goodIn_of _ (by decide +kernel)) ggX5_moves_X5_put
set_option maxRecDepth 20000 in
theorem ggX5_moves_X5_comes : GoodIn wsX5_moves wsX5_comes := goodIn_r _ [30, 1, 2, 3, 4, 5, 6, 31, 32, 33, 34, 35, 36, 37, 38, 23, 24, 25, 26, 39, 40, 41, 42, 43, 44, 45, 46, 47, 48, 49, 50, 51, 52, 53, 54, 55, 56, 57, 58, 59, 60, 61, 62, 63, 64, 65, 66] (by decide +kernel) (by decide +kernel)
set_option maxRecDepth 20000 in
theorem gX5_moves_X5_comes : GoodIn wsX5_moves (wsV RX5 120 RX5 yX5_comes wsX5_comes) := goodIn_app (goodIn_of _ (by decide +kernel)) ggX5_moves_X5_comes
theorem dX5_moves_0 : decode cX5_moves 0 = .ok (.aload_n 0, 1) := by decide +kernel
theorem dX5_moves_1 : decode cX5_moves 1 = .ok (.iload_n 1, 1) := by decide +kernel
theorem dX5_moves_2 : decode cX5_moves 2 = .ok (.iconst 0, 1) := by decide +kernel
theorem dX5_moves_3 : decode cX5_moves 3 = .ok (.invokevirtual 47, 3) := by decide +kernel
theorem dX5_moves_6 : decode cX5_moves 6 = .ok (.istore_n 2, 1) := by decide +kernel
theorem dX5_moves_7 : decode cX5_moves 7 = .ok (.aload_n 0, 1) := by decide +kernel
theorem dX5_moves_8 : decode cX5_moves 8 = .ok (.iload_n 2, 1) := by decide +kernel
theorem dX5_moves_9 : decode cX5_moves 9 = .ok (.invokevirtual 107, 3) := by decide +kernel
theorem dX5_moves_12 : decode cX5_moves 12 = .ok (.istore_n 3, 1) := by decide +kernel
theorem dX5_moves_13 : decode cX5_moves 13 = .ok (.aload_n 0, 1) := by decide +kernel
theorem dX5_moves_14 : decode cX5_moves 14 = .ok (.iload_n 2, 1) := by decide +kernel
theorem dX5_moves_15 : decode cX5_moves 15 = .ok (.iload_n 3, 1) := by decide +kernel
theorem dX5_moves_16 : decode cX5_moves 16 = .ok (.aload_n 0, 1) := by decide +kernel
theorem dX5_moves_17 : decode cX5_moves 17 = .ok (.iload_n 1, 1) := by decide +kernel
theorem dX5_moves_18 : decode cX5_moves 18 = .ok (.iconst 1, 1) := by decide +kernel
theorem dX5_moves_19 : decode cX5_moves 19 = .ok (.invokevirtual 47, 3) := by decide +kernel
theorem dX5_moves_22 : decode cX5_moves 22 = .ok (.aload_n 0, 1) := by decide +kernel
theorem dX5_moves_23 : decode cX5_moves 23 = .ok (.iload_n 1, 1) := by decide +kernel
theorem dX5_moves_24 : decode cX5_moves 24 = .ok (.invokevirtual 110, 3) := by decide +kernel
theorem dX5_moves_27 : decode cX5_moves 27 = .ok (.invokevirtual 113, 3) := by decide +kernel
theorem dX5_moves_30 : decode cX5_moves 30 = .ok (.istore 4, 2) := by decide +kernel
theorem dX5_moves_32 : decode cX5_moves 32 = .ok (.iload 4, 2) := by decide +kernel
theorem dX5_moves_34 : decode cX5_moves 34 = .ok (.ifCond .ge 9, 3) := by decide +kernel
theorem dX5_moves_37 : decode cX5_moves 37 = .ok (.aload_n 0, 1) := by decide +kernel
theorem dX5_moves_38 : decode cX5_moves 38 = .ok (.iload_n 1, 1) := by decide +kernel
theorem dX5_moves_39 : decode cX5_moves 39 = .ok (.invokevirtual 117, 3) := by decide +kernel
theorem dX5_moves_42 : decode cX5_moves 42 = .ok (.return_, 1) := by decide +kernel
theorem dX5_moves_43 : decode cX5_moves 43 = .ok (.aload_n 0, 1) := by decide +kernel
theorem dX5_moves_44 : decode cX5_moves 44 = .ok (.iload_n 1, 1) := by decide +kernel
theorem dX5_moves_45 : decode cX5_moves 45 = .ok (.iconst 0, 1) := by decide +kernel
theorem dX5_moves_46 : decode cX5_moves 46 = .ok (.iload_n 3, 1) := by decide +kernel
theorem dX5_moves_47 : decode cX5_moves 47 = .ok (.invokevirtual 63, 3) := by decide +kernel
theorem dX5_moves_50 : decode cX5_moves 50 = .ok (.aload_n 0, 1) := by decide +kernel
theorem dX5_moves_51 : decode cX5_moves 51 = .ok (.iload_n 1, 1) := by decide +kernel
theorem dX5_moves_52 : decode cX5_moves 52 = .ok (.bipush 6, 2) := by decide +kernel
theorem dX5_moves_54 : decode cX5_moves 54 = .ok (.aload_n 0, 1) := by decide +kernel
theorem dX5_moves_55 : decode cX5_moves 55 = .ok (.iload_n 1, 1) := by decide +kernel
theorem dX5_moves_56 : decode cX5_moves 56 = .ok (.bipush 6, 2) := by decide +kernel
theorem dX5_moves_58 : decode cX5_moves 58 = .ok (.invokevirtual 47, 3) := by decide +kernel
theorem dX5_moves_61 : decode cX5_moves 61 = .ok (.iconst 1, 1) := by decide +kernel
theorem dX5_moves_62 : decode cX5_moves 62 = .ok (.iadd, 1) := by decide +kernel
theorem dX5_moves_63 : decode cX5_moves 63 = .ok (.invokevirtual 63, 3) := by decide +kernel
theorem dX5_moves_66 : decode cX5_moves 66 = .ok (.aload_n 0, 1) := by decide +kernel
theorem dX5_moves_67 : decode cX5_moves 67 = .ok (.iload_n 1, 1) := by decide +kernel
theorem dX5_moves_68 : decode cX5_moves 68 = .ok (.iconst 1, 1) := by decide +kernel
theorem dX5_moves_69 : decode cX5_moves 69 = .ok (.iload 4, 2) := by decide +kernel
theorem dX5_moves_71 : decode cX5_moves 71 = .ok (.invokevirtual 63, 3) := by decide +kernel
theorem dX5_moves_74 : decode cX5_moves 74 = .ok (.aload_n 0, 1) := by decide +kernel
theorem dX5_moves_75 : decode cX5_moves 75 = .ok (.getfield 7, 3) := by decide +kernel
theorem dX5_moves_78 : decode cX5_moves 78 = .ok (.bipush 41, 2) := by decide +kernel
theorem dX5_moves_80 : decode cX5_moves 80 = .ok (.iload_n 3, 1) := by decide +kernel
theorem dX5_moves_81 : decode cX5_moves 81 = .ok (.iadd, 1) := by decide +kernel
theorem dX5_moves_82 : decode cX5_moves 82 = .ok (.iaload, 1) := by decide +kernel
theorem dX5_moves_83 : decode cX5_moves 83 = .ok (.iconst 2, 1) := by decide +kernel
theorem dX5_moves_84 : decode cX5_moves 84 = .ok (.if_icmp .ne 11, 3) := by decide +kernel
theorem dX5_moves_87 : decode cX5_moves 87 = .ok (.aload_n 0, 1) := by decide +kernel
theorem dX5_moves_88 : decode cX5_moves 88 = .ok (.iload_n 1, 1) := by decide +kernel
theorem dX5_moves_89 : decode cX5_moves 89 = .ok (.invokevirtual 120, 3) := by decide +kernel
theorem dX5_moves_92 : decode cX5_moves 92 = .ok (.goto 26, 3) := by decide +kernel
theorem dX5_moves_95 : decode cX5_moves 95 = .ok (.iload 4, 2) := by decide +kernel
theorem dX5_moves_97 : decode cX5_moves 97 = .ok (.ifCond .ne 21, 3) := by decide +kernel
theorem dX5_moves_100 : decode cX5_moves 100 = .ok (.aload_n 0, 1) := by decide +kernel
theorem dX5_moves_101 : decode cX5_moves 101 = .ok (.getfield 7, 3) := by decide +kernel
theorem dX5_moves_104 : decode cX5_moves 104 = .ok (.bipush 41, 2) := by decide +kernel
theorem dX5_moves_106 : decode cX5_moves 106 = .ok (.iload_n 3, 1) := by decide +kernel
theorem dX5_moves_107 : decode cX5_moves 107 = .ok (.iadd, 1) := by decide +kernel
theorem dX5_moves_108 : decode cX5_moves 108 = .ok (.iaload, 1) := by decide +kernel
theorem dX5_moves_109 : decode cX5_moves 109 = .ok (.iconst 1, 1) := by decide +kernel
theorem dX5_moves_110 : decode cX5_moves 110 = .ok (.if_icmp .eq 8, 3) := by decide +kernel
theorem dX5_moves_113 : decode cX5_moves 113 = .ok (.aload_n 0, 1) := by decide +kernel
theorem dX5_moves_114 : decode cX5_moves 114 = .ok (.iload_n 1, 1) := by decide +kernel
theorem dX5_moves_115 : decode cX5_moves 115 = .ok (.invokevirtual 117, 3) := by decide +kernel
theorem dX5_moves_118 : decode cX5_moves 118 = .ok (.return_, 1) := by decide +kernel
set_option maxRecDepth 20000 in
theorem ggX5_goes_X5_of : GoodIn wsX5_goes wsX5_of := goodIn_r _ [6, 1, 66, 67, 68, 69, 70, 71, 72, 73] (by decide +kernel) (by decide +kernel)
set_option maxRecDepth 20000 in
theorem gX5_goes_X5_of : GoodIn wsX5_goes (wsV RX5 47 RX5 yX5_of wsX5_of) := goodIn_app (goodIn_of _ (by decide +kernel)) ggX5_goes_X5_of
set_option maxRecDepth 20000 in
theorem ggX5_goes_X5_root : GoodIn wsX5_goes wsX5_root := goodIn_r _ [9] (by decide +kernel) (by decide +kernel)
set_option maxRecDepth 20000 in
theorem gX5_goes_X5_root : GoodIn wsX5_goes (va_wsS RX5 123 yX5_root wsX5_root) := goodIn_app (goodIn_of _ (by decide +kernel)) ggX5_goes_X5_root
set_option maxRecDepth 20000 in
theorem ggX5_goes_X5_put : GoodIn wsX5_goes wsX5_put := goodIn_r _ [13, 1, 66, 67, 68, 69, 70, 71, 72, 73] (by decide +kernel) (by decide +kernel)
set_option maxRecDepth 20000 in
theorem gX5_goes_X5_put : GoodIn wsX5_goes (wsV RX5 63 RX5 yX5_put wsX5_put) := goodIn_app (goodIn_of _ (by decide +kernel)) ggX5_goes_X5_put
set_option maxRecDepth 20000 in
theorem ggX5_goes_X5_moves : GoodIn wsX5_goes wsX5_moves := goodIn_r _ [17, 1, 2, 3, 4, 5, 6, 18, 19, 20, 21, 22, 23, 24, 25, 26, 27, 28, 29, 30, 31, 32, 33, 10, 11, 12, 13, 34, 35, 36, 37, 38, 39, 40, 41, 42, 43, 44, 45, 46, 47, 48, 49, 50, 51, 52, 53, 54, 55, 56, 57, 58, 59, 60, 61, 62, 63, 64, 65, 66, 67, 68, 69, 70, 71, 72, 73] (by decide +kernel) (by decide +kernel)
set_option maxRecDepth 20000 in
theorem gX5_goes_X5_moves : GoodIn wsX5_goes (wsV RX5 126 RX5 yX5_moves wsX5_moves) := goodIn_app (goodIn_of _ (by decide +kernel)) ggX5_goes_X5_moves
theorem dX5_goes_0 : decode cX5_goes 0 = .ok (.aload_n 0, 1) := by decide +kernel
theorem dX5_goes_1 : decode cX5_goes 1 = .ok (.getfield 7, 3) := by decide +kernel
theorem dX5_goes_4 : decode cX5_goes 4 = .ok (.bipush 41, 2) := by decide +kernel
theorem dX5_goes_6 : decode cX5_goes 6 = .ok (.aload_n 0, 1) := by decide +kernel
theorem dX5_goes_7 : decode cX5_goes 7 = .ok (.iload_n 1, 1) := by decide +kernel
theorem dX5_goes_8 : decode cX5_goes 8 = .ok (.iconst 0, 1) := by decide +kernel
theorem dX5_goes_9 : decode cX5_goes 9 = .ok (.invokevirtual 47, 3) := by decide +kernel
theorem dX5_goes_12 : decode cX5_goes 12 = .ok (.iadd, 1) := by decide +kernel
theorem dX5_goes_13 : decode cX5_goes 13 = .ok (.iaload, 1) := by decide +kernel
theorem dX5_goes_14 : decode cX5_goes 14 = .ok (.iconst 1, 1) := by decide +kernel
theorem dX5_goes_15 : decode cX5_goes 15 = .ok (.if_icmp .ne 7, 3) := by decide +kernel
theorem dX5_goes_18 : decode cX5_goes 18 = .ok (.iconst 5, 1) := by decide +kernel
theorem dX5_goes_19 : decode cX5_goes 19 = .ok (.goto 12, 3) := by decide +kernel
theorem dX5_goes_22 : decode cX5_goes 22 = .ok (.aload_n 0, 1) := by decide +kernel
theorem dX5_goes_23 : decode cX5_goes 23 = .ok (.iload_n 1, 1) := by decide +kernel
theorem dX5_goes_24 : decode cX5_goes 24 = .ok (.iconst 1, 1) := by decide +kernel
theorem dX5_goes_25 : decode cX5_goes 25 = .ok (.invokevirtual 47, 3) := by decide +kernel
theorem dX5_goes_28 : decode cX5_goes 28 = .ok (.invokestatic 123, 3) := by decide +kernel
theorem dX5_goes_31 : decode cX5_goes 31 = .ok (.istore_n 2, 1) := by decide +kernel
theorem dX5_goes_32 : decode cX5_goes 32 = .ok (.aload_n 0, 1) := by decide +kernel
theorem dX5_goes_33 : decode cX5_goes 33 = .ok (.iload_n 1, 1) := by decide +kernel
theorem dX5_goes_34 : decode cX5_goes 34 = .ok (.iconst 2, 1) := by decide +kernel
theorem dX5_goes_35 : decode cX5_goes 35 = .ok (.aload_n 0, 1) := by decide +kernel
theorem dX5_goes_36 : decode cX5_goes 36 = .ok (.iload_n 1, 1) := by decide +kernel
theorem dX5_goes_37 : decode cX5_goes 37 = .ok (.iconst 2, 1) := by decide +kernel
theorem dX5_goes_38 : decode cX5_goes 38 = .ok (.invokevirtual 47, 3) := by decide +kernel
theorem dX5_goes_41 : decode cX5_goes 41 = .ok (.iload_n 2, 1) := by decide +kernel
theorem dX5_goes_42 : decode cX5_goes 42 = .ok (.iadd, 1) := by decide +kernel
theorem dX5_goes_43 : decode cX5_goes 43 = .ok (.invokevirtual 63, 3) := by decide +kernel
theorem dX5_goes_46 : decode cX5_goes 46 = .ok (.aload_n 0, 1) := by decide +kernel
theorem dX5_goes_47 : decode cX5_goes 47 = .ok (.iload_n 1, 1) := by decide +kernel
theorem dX5_goes_48 : decode cX5_goes 48 = .ok (.iconst 4, 1) := by decide +kernel
theorem dX5_goes_49 : decode cX5_goes 49 = .ok (.invokevirtual 47, 3) := by decide +kernel
theorem dX5_goes_52 : decode cX5_goes 52 = .ok (.ifCond .ne 37, 3) := by decide +kernel
theorem dX5_goes_55 : decode cX5_goes 55 = .ok (.aload_n 0, 1) := by decide +kernel
theorem dX5_goes_56 : decode cX5_goes 56 = .ok (.iload_n 1, 1) := by decide +kernel
theorem dX5_goes_57 : decode cX5_goes 57 = .ok (.iconst 2, 1) := by decide +kernel
theorem dX5_goes_58 : decode cX5_goes 58 = .ok (.invokevirtual 47, 3) := by decide +kernel
theorem dX5_goes_61 : decode cX5_goes 61 = .ok (.bipush 100, 2) := by decide +kernel
theorem dX5_goes_63 : decode cX5_goes 63 = .ok (.if_icmp .lt 26, 3) := by decide +kernel
theorem dX5_goes_66 : decode cX5_goes 66 = .ok (.aload_n 0, 1) := by decide +kernel
theorem dX5_goes_67 : decode cX5_goes 67 = .ok (.iload_n 1, 1) := by decide +kernel
theorem dX5_goes_68 : decode cX5_goes 68 = .ok (.iconst 2, 1) := by decide +kernel
theorem dX5_goes_69 : decode cX5_goes 69 = .ok (.aload_n 0, 1) := by decide +kernel
theorem dX5_goes_70 : decode cX5_goes 70 = .ok (.iload_n 1, 1) := by decide +kernel
theorem dX5_goes_71 : decode cX5_goes 71 = .ok (.iconst 2, 1) := by decide +kernel
theorem dX5_goes_72 : decode cX5_goes 72 = .ok (.invokevirtual 47, 3) := by decide +kernel
theorem dX5_goes_75 : decode cX5_goes 75 = .ok (.bipush 100, 2) := by decide +kernel
theorem dX5_goes_77 : decode cX5_goes 77 = .ok (.isub, 1) := by decide +kernel
theorem dX5_goes_78 : decode cX5_goes 78 = .ok (.invokevirtual 63, 3) := by decide +kernel
theorem dX5_goes_81 : decode cX5_goes 81 = .ok (.aload_n 0, 1) := by decide +kernel
theorem dX5_goes_82 : decode cX5_goes 82 = .ok (.iload_n 1, 1) := by decide +kernel
theorem dX5_goes_83 : decode cX5_goes 83 = .ok (.invokevirtual 126, 3) := by decide +kernel
theorem dX5_goes_86 : decode cX5_goes 86 = .ok (.goto (-40), 3) := by decide +kernel
theorem dX5_goes_89 : decode cX5_goes 89 = .ok (.return_, 1) := by decide +kernel
set_option maxRecDepth 20000 in
theorem ggX5_warms_X5_of : GoodIn wsX5_warms wsX5_of := goodIn_r _ [6, 1, 14, 15, 16, 17, 18, 19, 20, 21] (by decide +kernel) (by decide +kernel)
set_option maxRecDepth 20000 in
theorem gX5_warms_X5_of : GoodIn wsX5_warms (wsV RX5 47 RX5 yX5_of wsX5_of) := goodIn_app (goodIn_of _ (by decide +kernel)) ggX5_warms_X5_of
set_option maxRecDepth 20000 in
theorem ggX5_warms_X5_root : GoodIn wsX5_warms wsX5_root := goodIn_r _ [9] (by decide +kernel) (by decide +kernel)
set_option maxRecDepth 20000 in
theorem gX5_warms_X5_root : GoodIn wsX5_warms (va_wsS RX5 123 yX5_root wsX5_root) := goodIn_app (goodIn_of _ (by decide +kernel)) ggX5_warms_X5_root
set_option maxRecDepth 20000 in
theorem ggX5_warms_X5_put : GoodIn wsX5_warms wsX5_put := goodIn_r _ [13, 1, 14, 15, 16, 17, 18, 19, 20, 21] (by decide +kernel) (by decide +kernel)
set_option maxRecDepth 20000 in
theorem gX5_warms_X5_put : GoodIn wsX5_warms (wsV RX5 63 RX5 yX5_put wsX5_put) := goodIn_app (goodIn_of _ (by decide +kernel)) ggX5_warms_X5_put
theorem dX5_warms_0 : decode cX5_warms 0 = .ok (.aload_n 0, 1) := by decide +kernel
theorem dX5_warms_1 : decode cX5_warms 1 = .ok (.iload_n 1, 1) := by decide +kernel
theorem dX5_warms_2 : decode cX5_warms 2 = .ok (.iconst 3, 1) := by decide +kernel
theorem dX5_warms_3 : decode cX5_warms 3 = .ok (.invokevirtual 47, 3) := by decide +kernel
theorem dX5_warms_6 : decode cX5_warms 6 = .ok (.aload_n 0, 1) := by decide +kernel
theorem dX5_warms_7 : decode cX5_warms 7 = .ok (.iload_n 1, 1) := by decide +kernel
theorem dX5_warms_8 : decode cX5_warms 8 = .ok (.iconst 4, 1) := by decide +kernel
theorem dX5_warms_9 : decode cX5_warms 9 = .ok (.invokevirtual 47, 3) := by decide +kernel
theorem dX5_warms_12 : decode cX5_warms 12 = .ok (.ifCond .ne 18, 3) := by decide +kernel
theorem dX5_warms_15 : decode cX5_warms 15 = .ok (.aload_n 0, 1) := by decide +kernel
theorem dX5_warms_16 : decode cX5_warms 16 = .ok (.iload_n 1, 1) := by decide +kernel
theorem dX5_warms_17 : decode cX5_warms 17 = .ok (.iconst 1, 1) := by decide +kernel
theorem dX5_warms_18 : decode cX5_warms 18 = .ok (.invokevirtual 47, 3) := by decide +kernel
theorem dX5_warms_21 : decode cX5_warms 21 = .ok (.invokestatic 123, 3) := by decide +kernel
theorem dX5_warms_24 : decode cX5_warms 24 = .ok (.bipush 10, 2) := by decide +kernel
theorem dX5_warms_26 : decode cX5_warms 26 = .ok (.idiv, 1) := by decide +kernel
theorem dX5_warms_27 : decode cX5_warms 27 = .ok (.goto 4, 3) := by decide +kernel
theorem dX5_warms_30 : decode cX5_warms 30 = .ok (.iconst 0, 1) := by decide +kernel
theorem dX5_warms_31 : decode cX5_warms 31 = .ok (.iadd, 1) := by decide +kernel
theorem dX5_warms_32 : decode cX5_warms 32 = .ok (.istore_n 2, 1) := by decide +kernel
theorem dX5_warms_33 : decode cX5_warms 33 = .ok (.iload_n 2, 1) := by decide +kernel
theorem dX5_warms_34 : decode cX5_warms 34 = .ok (.bipush 100, 2) := by decide +kernel
theorem dX5_warms_36 : decode cX5_warms 36 = .ok (.if_icmp .le 8, 3) := by decide +kernel
theorem dX5_warms_39 : decode cX5_warms 39 = .ok (.bipush 100, 2) := by decide +kernel
theorem dX5_warms_41 : decode cX5_warms 41 = .ok (.goto 4, 3) := by decide +kernel
theorem dX5_warms_44 : decode cX5_warms 44 = .ok (.iload_n 2, 1) := by decide +kernel
theorem dX5_warms_45 : decode cX5_warms 45 = .ok (.istore_n 2, 1) := by decide +kernel
theorem dX5_warms_46 : decode cX5_warms 46 = .ok (.aload_n 0, 1) := by decide +kernel
theorem dX5_warms_47 : decode cX5_warms 47 = .ok (.iload_n 1, 1) := by decide +kernel
theorem dX5_warms_48 : decode cX5_warms 48 = .ok (.iconst 3, 1) := by decide +kernel
theorem dX5_warms_49 : decode cX5_warms 49 = .ok (.iload_n 2, 1) := by decide +kernel
theorem dX5_warms_50 : decode cX5_warms 50 = .ok (.aload_n 0, 1) := by decide +kernel
theorem dX5_warms_51 : decode cX5_warms 51 = .ok (.getfield 7, 3) := by decide +kernel
theorem dX5_warms_54 : decode cX5_warms 54 = .ok (.bipush 7, 2) := by decide +kernel
theorem dX5_warms_56 : decode cX5_warms 56 = .ok (.iaload, 1) := by decide +kernel
theorem dX5_warms_57 : decode cX5_warms 57 = .ok (.if_icmp .ge 9, 3) := by decide +kernel
theorem dX5_warms_60 : decode cX5_warms 60 = .ok (.iload_n 2, 1) := by decide +kernel
theorem dX5_warms_61 : decode cX5_warms 61 = .ok (.iconst 1, 1) := by decide +kernel
theorem dX5_warms_62 : decode cX5_warms 62 = .ok (.iadd, 1) := by decide +kernel
theorem dX5_warms_63 : decode cX5_warms 63 = .ok (.goto 21, 3) := by decide +kernel
theorem dX5_warms_66 : decode cX5_warms 66 = .ok (.iload_n 2, 1) := by decide +kernel
theorem dX5_warms_67 : decode cX5_warms 67 = .ok (.aload_n 0, 1) := by decide +kernel
theorem dX5_warms_68 : decode cX5_warms 68 = .ok (.getfield 7, 3) := by decide +kernel
theorem dX5_warms_71 : decode cX5_warms 71 = .ok (.bipush 7, 2) := by decide +kernel
theorem dX5_warms_73 : decode cX5_warms 73 = .ok (.iaload, 1) := by decide +kernel
theorem dX5_warms_74 : decode cX5_warms 74 = .ok (.if_icmp .le 9, 3) := by decide +kernel
theorem dX5_warms_77 : decode cX5_warms 77 = .ok (.iload_n 2, 1) := by decide +kernel
theorem dX5_warms_78 : decode cX5_warms 78 = .ok (.iconst 1, 1) := by decide +kernel
theorem dX5_warms_79 : decode cX5_warms 79 = .ok (.isub, 1) := by decide +kernel
theorem dX5_warms_80 : decode cX5_warms 80 = .ok (.goto 4, 3) := by decide +kernel
theorem dX5_warms_83 : decode cX5_warms 83 = .ok (.iload_n 2, 1) := by decide +kernel
theorem dX5_warms_84 : decode cX5_warms 84 = .ok (.invokevirtual 63, 3) := by decide +kernel
theorem dX5_warms_87 : decode cX5_warms 87 = .ok (.return_, 1) := by decide +kernel
set_option maxRecDepth 20000 in
theorem ggX5_tick_X5_of : GoodIn wsX5_tick wsX5_of := goodIn_r _ [6, 1, 94, 95, 96, 97, 98, 99, 100, 101] (by decide +kernel) (by decide +kernel)
set_option maxRecDepth 20000 in
theorem gX5_tick_X5_of : GoodIn wsX5_tick (wsV RX5 47 RX5 yX5_of wsX5_of) := goodIn_app (goodIn_of _ (by decide +kernel)) ggX5_tick_X5_of
set_option maxRecDepth 20000 in
theorem ggX5_tick_X5_waits : GoodIn wsX5_tick wsX5_waits := goodIn_r _ [10, 2, 3, 4, 5, 6, 1, 11, 12, 13, 14, 15, 16, 17, 18, 19, 20, 21, 22, 23, 24, 25, 26, 27, 28, 29, 30, 31, 32, 33, 34, 35, 36, 37, 38, 39, 40, 41, 42, 43, 44, 45, 46, 47, 48, 49, 50, 51, 52, 53, 54, 94, 95, 96, 97, 98, 99, 100, 101] (by decide +kernel) (by decide +kernel)
set_option maxRecDepth 20000 in
theorem gX5_tick_X5_waits : GoodIn wsX5_tick (wsV RX5 129 RX5 yX5_waits wsX5_waits) := goodIn_app (goodIn_of _ (by decide +kernel)) ggX5_tick_X5_waits
set_option maxRecDepth 20000 in
theorem ggX5_tick_X5_goes : GoodIn wsX5_tick wsX5_goes := goodIn_r _ [58, 1, 2, 3, 4, 5, 6, 59, 60, 61, 11, 12, 13, 14, 62, 63, 64, 65, 66, 67, 68, 69, 70, 71, 72, 73, 74, 75, 76, 77, 78, 79, 80, 81, 82, 83, 84, 85, 19, 20, 21, 22, 86, 87, 88, 89, 23, 24, 25, 26, 27, 28, 29, 30, 31, 32, 33, 34, 35, 36, 37, 38, 39, 40, 41, 42, 94, 95, 96, 97, 98, 99, 100, 101] (by decide +kernel) (by decide +kernel)
set_option maxRecDepth 20000 in
theorem gX5_tick_X5_goes : GoodIn wsX5_tick (wsV RX5 132 RX5 yX5_goes wsX5_goes) := goodIn_app (goodIn_of _ (by decide +kernel)) ggX5_tick_X5_goes
set_option maxRecDepth 20000 in
theorem ggX5_tick_X5_warms : GoodIn wsX5_tick wsX5_warms := goodIn_r _ [93, 1, 2, 3, 4, 5, 6, 59, 60, 61, 11, 12, 13, 14, 94, 95, 96, 97, 98, 99, 100, 101] (by decide +kernel) (by decide +kernel)
set_option maxRecDepth 20000 in
theorem gX5_tick_X5_warms : GoodIn wsX5_tick (wsV RX5 135 RX5 yX5_warms wsX5_warms) := goodIn_app (goodIn_of _ (by decide +kernel)) ggX5_tick_X5_warms
theorem dX5_tick_0 : decode cX5_tick 0 = .ok (.iconst 0, 1) := by decide +kernel
theorem dX5_tick_1 : decode cX5_tick 1 = .ok (.istore_n 1, 1) := by decide +kernel
theorem dX5_tick_2 : decode cX5_tick 2 = .ok (.iload_n 1, 1) := by decide +kernel
theorem dX5_tick_3 : decode cX5_tick 3 = .ok (.aload_n 0, 1) := by decide +kernel
theorem dX5_tick_4 : decode cX5_tick 4 = .ok (.getfield 7, 3) := by decide +kernel
theorem dX5_tick_7 : decode cX5_tick 7 = .ok (.iconst 2, 1) := by decide +kernel
theorem dX5_tick_8 : decode cX5_tick 8 = .ok (.iaload, 1) := by decide +kernel
theorem dX5_tick_9 : decode cX5_tick 9 = .ok (.if_icmp .ge 46, 3) := by decide +kernel
theorem dX5_tick_12 : decode cX5_tick 12 = .ok (.aload_n 0, 1) := by decide +kernel
theorem dX5_tick_13 : decode cX5_tick 13 = .ok (.iload_n 1, 1) := by decide +kernel
theorem dX5_tick_14 : decode cX5_tick 14 = .ok (.iconst 4, 1) := by decide +kernel
theorem dX5_tick_15 : decode cX5_tick 15 = .ok (.invokevirtual 47, 3) := by decide +kernel
theorem dX5_tick_18 : decode cX5_tick 18 = .ok (.iconst 1, 1) := by decide +kernel
theorem dX5_tick_19 : decode cX5_tick 19 = .ok (.if_icmp .ne 11, 3) := by decide +kernel
theorem dX5_tick_22 : decode cX5_tick 22 = .ok (.aload_n 0, 1) := by decide +kernel
theorem dX5_tick_23 : decode cX5_tick 23 = .ok (.iload_n 1, 1) := by decide +kernel
theorem dX5_tick_24 : decode cX5_tick 24 = .ok (.invokevirtual 129, 3) := by decide +kernel
theorem dX5_tick_27 : decode cX5_tick 27 = .ok (.goto 17, 3) := by decide +kernel
theorem dX5_tick_30 : decode cX5_tick 30 = .ok (.aload_n 0, 1) := by decide +kernel
theorem dX5_tick_31 : decode cX5_tick 31 = .ok (.iload_n 1, 1) := by decide +kernel
theorem dX5_tick_32 : decode cX5_tick 32 = .ok (.iconst 4, 1) := by decide +kernel
theorem dX5_tick_33 : decode cX5_tick 33 = .ok (.invokevirtual 47, 3) := by decide +kernel
theorem dX5_tick_36 : decode cX5_tick 36 = .ok (.ifCond .ne 8, 3) := by decide +kernel
theorem dX5_tick_39 : decode cX5_tick 39 = .ok (.aload_n 0, 1) := by decide +kernel
theorem dX5_tick_40 : decode cX5_tick 40 = .ok (.iload_n 1, 1) := by decide +kernel
theorem dX5_tick_41 : decode cX5_tick 41 = .ok (.invokevirtual 132, 3) := by decide +kernel
theorem dX5_tick_44 : decode cX5_tick 44 = .ok (.aload_n 0, 1) := by decide +kernel
theorem dX5_tick_45 : decode cX5_tick 45 = .ok (.iload_n 1, 1) := by decide +kernel
theorem dX5_tick_46 : decode cX5_tick 46 = .ok (.invokevirtual 135, 3) := by decide +kernel
theorem dX5_tick_49 : decode cX5_tick 49 = .ok (.iinc 1 1, 3) := by decide +kernel
theorem dX5_tick_52 : decode cX5_tick 52 = .ok (.goto (-50), 3) := by decide +kernel
theorem dX5_tick_55 : decode cX5_tick 55 = .ok (.aload_n 0, 1) := by decide +kernel
theorem dX5_tick_56 : decode cX5_tick 56 = .ok (.getfield 7, 3) := by decide +kernel
theorem dX5_tick_59 : decode cX5_tick 59 = .ok (.iconst 3, 1) := by decide +kernel
theorem dX5_tick_60 : decode cX5_tick 60 = .ok (.dup2, 1) := by decide +kernel
theorem dX5_tick_61 : decode cX5_tick 61 = .ok (.iaload, 1) := by decide +kernel
theorem dX5_tick_62 : decode cX5_tick 62 = .ok (.iconst 1, 1) := by decide +kernel
theorem dX5_tick_63 : decode cX5_tick 63 = .ok (.iadd, 1) := by decide +kernel
theorem dX5_tick_64 : decode cX5_tick 64 = .ok (.iastore, 1) := by decide +kernel
theorem dX5_tick_65 : decode cX5_tick 65 = .ok (.return_, 1) := by decide +kernel
set_option maxRecDepth 20000 in
theorem ggX5_pass_X5_in : GoodIn wsX5_pass wsX5_in := goodIn_r _ [6] (by decide +kernel) (by decide +kernel)
set_option maxRecDepth 20000 in
theorem gX5_pass_X5_in : GoodIn wsX5_pass (va_wsS RX5 43 yX5_in wsX5_in) := goodIn_app (goodIn_of _ (by decide +kernel)) ggX5_pass_X5_in
set_option maxRecDepth 20000 in
theorem ggX5_pass_X5_fails : GoodIn wsX5_pass wsX5_fails := goodIn_r _ [10, 11, 117, 118, 119, 120, 121, 122, 123, 124] (by decide +kernel) (by decide +kernel)
set_option maxRecDepth 20000 in
theorem gX5_pass_X5_fails : GoodIn wsX5_pass (wsV RX5 36 RX5 yX5_fails wsX5_fails) := goodIn_app (goodIn_of _ (by decide +kernel)) ggX5_pass_X5_fails
set_option maxRecDepth 20000 in
theorem ggX5_pass_X5_saves : GoodIn wsX5_pass wsX5_saves := goodIn_r _ [15, 16, 17, 1, 117, 118, 119, 120, 121, 122, 123, 124] (by decide +kernel) (by decide +kernel)
set_option maxRecDepth 20000 in
theorem gX5_pass_X5_saves : GoodIn wsX5_pass (wsV RX5 74 RX5 yX5_saves wsX5_saves) := goodIn_app (goodIn_of _ (by decide +kernel)) ggX5_pass_X5_saves
set_option maxRecDepth 20000 in
theorem ggX5_pass_X5_tick : GoodIn wsX5_pass wsX5_tick := goodIn_r _ [21, 1, 22, 23, 24, 5, 25, 26, 27, 28, 29, 30, 31, 32, 33, 34, 35, 36, 37, 38, 39, 40, 41, 42, 43, 44, 45, 46, 47, 48, 49, 50, 51, 52, 53, 54, 55, 56, 57, 58, 59, 60, 61, 62, 63, 64, 65, 66, 67, 68, 69, 70, 71, 72, 73, 74, 75, 76, 77, 78, 79, 80, 81, 82, 83, 84, 85, 86, 87, 88, 89, 90, 91, 92, 93, 94, 95, 96, 97, 98, 99, 100, 101, 102, 103, 104, 105, 106, 107, 108, 109, 110, 111, 112, 117, 118, 119, 120, 121, 122, 123, 124] (by decide +kernel) (by decide +kernel)
set_option maxRecDepth 20000 in
theorem gX5_pass_X5_tick : GoodIn wsX5_pass (wsV RX5 139 RX5 yX5_tick wsX5_tick) := goodIn_app (goodIn_of _ (by decide +kernel)) ggX5_pass_X5_tick
set_option maxRecDepth 20000 in
theorem ggX5_pass_X5_tells : GoodIn wsX5_pass wsX5_tells := goodIn_r _ [116, 11, 117, 118, 119, 120, 121, 122, 123, 124] (by decide +kernel) (by decide +kernel)
set_option maxRecDepth 20000 in
theorem gX5_pass_X5_tells : GoodIn wsX5_pass (wsV RX5 40 RX5 yX5_tells wsX5_tells) := goodIn_app (goodIn_of _ (by decide +kernel)) ggX5_pass_X5_tells
theorem dX5_pass_0 : decode cX5_pass 0 = .ok (.iload_n 1, 1) := by decide +kernel
theorem dX5_pass_1 : decode cX5_pass 1 = .ok (.iconst 1, 1) := by decide +kernel
theorem dX5_pass_2 : decode cX5_pass 2 = .ok (.sipush 500, 3) := by decide +kernel
theorem dX5_pass_5 : decode cX5_pass 5 = .ok (.invokestatic 43, 3) := by decide +kernel
theorem dX5_pass_8 : decode cX5_pass 8 = .ok (.ifCond .ne 9, 3) := by decide +kernel
theorem dX5_pass_11 : decode cX5_pass 11 = .ok (.aload_n 0, 1) := by decide +kernel
theorem dX5_pass_12 : decode cX5_pass 12 = .ok (.iconst 1, 1) := by decide +kernel
theorem dX5_pass_13 : decode cX5_pass 13 = .ok (.invokevirtual 36, 3) := by decide +kernel
theorem dX5_pass_16 : decode cX5_pass 16 = .ok (.ireturn, 1) := by decide +kernel
theorem dX5_pass_17 : decode cX5_pass 17 = .ok (.aload_n 0, 1) := by decide +kernel
theorem dX5_pass_18 : decode cX5_pass 18 = .ok (.getfield 7, 3) := by decide +kernel
theorem dX5_pass_21 : decode cX5_pass 21 = .ok (.iconst 3, 1) := by decide +kernel
theorem dX5_pass_22 : decode cX5_pass 22 = .ok (.iaload, 1) := by decide +kernel
theorem dX5_pass_23 : decode cX5_pass 23 = .ok (.iload_n 1, 1) := by decide +kernel
theorem dX5_pass_24 : decode cX5_pass 24 = .ok (.iadd, 1) := by decide +kernel
theorem dX5_pass_25 : decode cX5_pass 25 = .ok (.ldc 138, 2) := by decide +kernel
theorem dX5_pass_27 : decode cX5_pass 27 = .ok (.if_icmp .le 9, 3) := by decide +kernel
theorem dX5_pass_30 : decode cX5_pass 30 = .ok (.aload_n 0, 1) := by decide +kernel
theorem dX5_pass_31 : decode cX5_pass 31 = .ok (.iconst 2, 1) := by decide +kernel
theorem dX5_pass_32 : decode cX5_pass 32 = .ok (.invokevirtual 36, 3) := by decide +kernel
theorem dX5_pass_35 : decode cX5_pass 35 = .ok (.ireturn, 1) := by decide +kernel
theorem dX5_pass_36 : decode cX5_pass 36 = .ok (.aload_n 0, 1) := by decide +kernel
theorem dX5_pass_37 : decode cX5_pass 37 = .ok (.invokevirtual 74, 3) := by decide +kernel
theorem dX5_pass_40 : decode cX5_pass 40 = .ok (.aload_n 0, 1) := by decide +kernel
theorem dX5_pass_41 : decode cX5_pass 41 = .ok (.getfield 7, 3) := by decide +kernel
theorem dX5_pass_44 : decode cX5_pass 44 = .ok (.bipush 8, 2) := by decide +kernel
theorem dX5_pass_46 : decode cX5_pass 46 = .ok (.iaload, 1) := by decide +kernel
theorem dX5_pass_47 : decode cX5_pass 47 = .ok (.istore_n 2, 1) := by decide +kernel
theorem dX5_pass_48 : decode cX5_pass 48 = .ok (.iconst 0, 1) := by decide +kernel
theorem dX5_pass_49 : decode cX5_pass 49 = .ok (.istore_n 3, 1) := by decide +kernel
theorem dX5_pass_50 : decode cX5_pass 50 = .ok (.iload_n 3, 1) := by decide +kernel
theorem dX5_pass_51 : decode cX5_pass 51 = .ok (.iload_n 1, 1) := by decide +kernel
theorem dX5_pass_52 : decode cX5_pass 52 = .ok (.if_icmp .ge 13, 3) := by decide +kernel
theorem dX5_pass_55 : decode cX5_pass 55 = .ok (.aload_n 0, 1) := by decide +kernel
theorem dX5_pass_56 : decode cX5_pass 56 = .ok (.invokevirtual 139, 3) := by decide +kernel
theorem dX5_pass_59 : decode cX5_pass 59 = .ok (.iinc 3 1, 3) := by decide +kernel
theorem dX5_pass_62 : decode cX5_pass 62 = .ok (.goto (-12), 3) := by decide +kernel
theorem dX5_pass_65 : decode cX5_pass 65 = .ok (.aload_n 0, 1) := by decide +kernel
theorem dX5_pass_66 : decode cX5_pass 66 = .ok (.aload_n 0, 1) := by decide +kernel
theorem dX5_pass_67 : decode cX5_pass 67 = .ok (.getfield 7, 3) := by decide +kernel
theorem dX5_pass_70 : decode cX5_pass 70 = .ok (.bipush 8, 2) := by decide +kernel
theorem dX5_pass_72 : decode cX5_pass 72 = .ok (.iaload, 1) := by decide +kernel
theorem dX5_pass_73 : decode cX5_pass 73 = .ok (.iload_n 2, 1) := by decide +kernel
theorem dX5_pass_74 : decode cX5_pass 74 = .ok (.isub, 1) := by decide +kernel
theorem dX5_pass_75 : decode cX5_pass 75 = .ok (.invokevirtual 40, 3) := by decide +kernel
theorem dX5_pass_78 : decode cX5_pass 78 = .ok (.ireturn, 1) := by decide +kernel
set_option maxRecDepth 20000 in
theorem ggX5_trainOf_X5_of : GoodIn wsX5_trainOf wsX5_of := goodIn_r _ [5, 6, 15, 16, 17, 18, 19, 20, 21, 22] (by decide +kernel) (by decide +kernel)
set_option maxRecDepth 20000 in
theorem gX5_trainOf_X5_of : GoodIn wsX5_trainOf (wsV RX5 47 RX5 yX5_of wsX5_of) := goodIn_app (goodIn_of _ (by decide +kernel)) ggX5_trainOf_X5_of
set_option maxRecDepth 20000 in
theorem ggX5_trainOf_X5_blockAt : GoodIn wsX5_trainOf wsX5_blockAt := goodIn_r _ [10, 6, 15, 16, 17, 18, 19, 20, 21, 22] (by decide +kernel) (by decide +kernel)
set_option maxRecDepth 20000 in
theorem gX5_trainOf_X5_blockAt : GoodIn wsX5_trainOf (wsV RX5 51 RX5 yX5_blockAt wsX5_blockAt) := goodIn_app (goodIn_of _ (by decide +kernel)) ggX5_trainOf_X5_blockAt
set_option maxRecDepth 20000 in
theorem ggX5_trainOf_X5_drag : GoodIn wsX5_trainOf wsX5_drag := goodIn_r _ [14, 6, 1, 2, 3, 4, 5, 15, 16, 17, 18, 19, 20, 21, 22] (by decide +kernel) (by decide +kernel)
set_option maxRecDepth 20000 in
theorem gX5_trainOf_X5_drag : GoodIn wsX5_trainOf (wsV RX5 110 RX5 yX5_drag wsX5_drag) := goodIn_app (goodIn_of _ (by decide +kernel)) ggX5_trainOf_X5_drag
theorem dX5_trainOf_0 : decode cX5_trainOf 0 = .ok (.iload_n 2, 1) := by decide +kernel
theorem dX5_trainOf_1 : decode cX5_trainOf 1 = .ok (.tableswitch 92 0 7 #[47, 54, 92, 92, 92, 92, 65, 86], 47) := by decide +kernel
theorem dX5_trainOf_48 : decode cX5_trainOf 48 = .ok (.aload_n 0, 1) := by decide +kernel
theorem dX5_trainOf_49 : decode cX5_trainOf 49 = .ok (.iload_n 1, 1) := by decide +kernel
theorem dX5_trainOf_50 : decode cX5_trainOf 50 = .ok (.iconst 0, 1) := by decide +kernel
theorem dX5_trainOf_51 : decode cX5_trainOf 51 = .ok (.invokevirtual 47, 3) := by decide +kernel
theorem dX5_trainOf_54 : decode cX5_trainOf 54 = .ok (.ireturn, 1) := by decide +kernel
theorem dX5_trainOf_55 : decode cX5_trainOf 55 = .ok (.aload_n 0, 1) := by decide +kernel
theorem dX5_trainOf_56 : decode cX5_trainOf 56 = .ok (.aload_n 0, 1) := by decide +kernel
theorem dX5_trainOf_57 : decode cX5_trainOf 57 = .ok (.iload_n 1, 1) := by decide +kernel
theorem dX5_trainOf_58 : decode cX5_trainOf 58 = .ok (.iconst 0, 1) := by decide +kernel
theorem dX5_trainOf_59 : decode cX5_trainOf 59 = .ok (.invokevirtual 47, 3) := by decide +kernel
theorem dX5_trainOf_62 : decode cX5_trainOf 62 = .ok (.invokevirtual 51, 3) := by decide +kernel
theorem dX5_trainOf_65 : decode cX5_trainOf 65 = .ok (.ireturn, 1) := by decide +kernel
theorem dX5_trainOf_66 : decode cX5_trainOf 66 = .ok (.aload_n 0, 1) := by decide +kernel
theorem dX5_trainOf_67 : decode cX5_trainOf 67 = .ok (.iload_n 1, 1) := by decide +kernel
theorem dX5_trainOf_68 : decode cX5_trainOf 68 = .ok (.iconst 4, 1) := by decide +kernel
theorem dX5_trainOf_69 : decode cX5_trainOf 69 = .ok (.invokevirtual 47, 3) := by decide +kernel
theorem dX5_trainOf_72 : decode cX5_trainOf 72 = .ok (.iconst 1, 1) := by decide +kernel
theorem dX5_trainOf_73 : decode cX5_trainOf 73 = .ok (.if_icmp .ne 12, 3) := by decide +kernel
theorem dX5_trainOf_76 : decode cX5_trainOf 76 = .ok (.aload_n 0, 1) := by decide +kernel
theorem dX5_trainOf_77 : decode cX5_trainOf 77 = .ok (.iload_n 1, 1) := by decide +kernel
theorem dX5_trainOf_78 : decode cX5_trainOf 78 = .ok (.iconst 5, 1) := by decide +kernel
theorem dX5_trainOf_79 : decode cX5_trainOf 79 = .ok (.invokevirtual 47, 3) := by decide +kernel
theorem dX5_trainOf_82 : decode cX5_trainOf 82 = .ok (.goto 4, 3) := by decide +kernel
theorem dX5_trainOf_85 : decode cX5_trainOf 85 = .ok (.iconst 0, 1) := by decide +kernel
theorem dX5_trainOf_86 : decode cX5_trainOf 86 = .ok (.ireturn, 1) := by decide +kernel
theorem dX5_trainOf_87 : decode cX5_trainOf 87 = .ok (.aload_n 0, 1) := by decide +kernel
theorem dX5_trainOf_88 : decode cX5_trainOf 88 = .ok (.iload_n 1, 1) := by decide +kernel
theorem dX5_trainOf_89 : decode cX5_trainOf 89 = .ok (.invokevirtual 110, 3) := by decide +kernel
theorem dX5_trainOf_92 : decode cX5_trainOf 92 = .ok (.ireturn, 1) := by decide +kernel
theorem dX5_trainOf_93 : decode cX5_trainOf 93 = .ok (.aload_n 0, 1) := by decide +kernel
theorem dX5_trainOf_94 : decode cX5_trainOf 94 = .ok (.iload_n 1, 1) := by decide +kernel
theorem dX5_trainOf_95 : decode cX5_trainOf 95 = .ok (.iload_n 2, 1) := by decide +kernel
theorem dX5_trainOf_96 : decode cX5_trainOf 96 = .ok (.bipush 6, 2) := by decide +kernel
theorem dX5_trainOf_98 : decode cX5_trainOf 98 = .ok (.if_icmp .ge 9, 3) := by decide +kernel
theorem dX5_trainOf_101 : decode cX5_trainOf 101 = .ok (.iload_n 2, 1) := by decide +kernel
theorem dX5_trainOf_102 : decode cX5_trainOf 102 = .ok (.iconst 1, 1) := by decide +kernel
theorem dX5_trainOf_103 : decode cX5_trainOf 103 = .ok (.isub, 1) := by decide +kernel
theorem dX5_trainOf_104 : decode cX5_trainOf 104 = .ok (.goto 6, 3) := by decide +kernel
theorem dX5_trainOf_107 : decode cX5_trainOf 107 = .ok (.iload_n 2, 1) := by decide +kernel
theorem dX5_trainOf_108 : decode cX5_trainOf 108 = .ok (.iconst 2, 1) := by decide +kernel
theorem dX5_trainOf_109 : decode cX5_trainOf 109 = .ok (.isub, 1) := by decide +kernel
theorem dX5_trainOf_110 : decode cX5_trainOf 110 = .ok (.invokevirtual 47, 3) := by decide +kernel
theorem dX5_trainOf_113 : decode cX5_trainOf 113 = .ok (.ireturn, 1) := by decide +kernel
set_option maxRecDepth 20000 in
theorem ggX5_train_X5_isTrain : GoodIn wsX5_train wsX5_isTrain := goodIn_r _ [5, 6, 7, 8, 4, 9, 35, 36, 37, 38, 39, 40, 41, 42] (by decide +kernel) (by decide +kernel)
set_option maxRecDepth 20000 in
theorem gX5_train_X5_isTrain : GoodIn wsX5_train (wsV RX5 81 RX5 yX5_isTrain wsX5_isTrain) := goodIn_app (goodIn_of _ (by decide +kernel)) ggX5_train_X5_isTrain
set_option maxRecDepth 20000 in
theorem ggX5_train_X5_fails : GoodIn wsX5_train wsX5_fails := goodIn_r _ [13, 14, 35, 36, 37, 38, 39, 40, 41, 42] (by decide +kernel) (by decide +kernel)
set_option maxRecDepth 20000 in
theorem gX5_train_X5_fails : GoodIn wsX5_train (wsV RX5 36 RX5 yX5_fails wsX5_fails) := goodIn_app (goodIn_of _ (by decide +kernel)) ggX5_train_X5_fails
set_option maxRecDepth 20000 in
theorem ggX5_train_X5_in : GoodIn wsX5_train wsX5_in := goodIn_r _ [9] (by decide +kernel) (by decide +kernel)
set_option maxRecDepth 20000 in
theorem gX5_train_X5_in : GoodIn wsX5_train (va_wsS RX5 43 yX5_in wsX5_in) := goodIn_app (goodIn_of _ (by decide +kernel)) ggX5_train_X5_in
set_option maxRecDepth 20000 in
theorem ggX5_train_X5_trainOf : GoodIn wsX5_train wsX5_trainOf := goodIn_r _ [18, 19, 20, 21, 4, 22, 6, 23, 24, 25, 26, 27, 28, 29, 30, 35, 36, 37, 38, 39, 40, 41, 42] (by decide +kernel) (by decide +kernel)
set_option maxRecDepth 20000 in
theorem gX5_train_X5_trainOf : GoodIn wsX5_train (wsV RX5 142 RX5 yX5_trainOf wsX5_trainOf) := goodIn_app (goodIn_of _ (by decide +kernel)) ggX5_train_X5_trainOf
set_option maxRecDepth 20000 in
theorem ggX5_train_X5_tells : GoodIn wsX5_train wsX5_tells := goodIn_r _ [34, 14, 35, 36, 37, 38, 39, 40, 41, 42] (by decide +kernel) (by decide +kernel)
set_option maxRecDepth 20000 in
theorem gX5_train_X5_tells : GoodIn wsX5_train (wsV RX5 40 RX5 yX5_tells wsX5_tells) := goodIn_app (goodIn_of _ (by decide +kernel)) ggX5_train_X5_tells
theorem dX5_train_0 : decode cX5_train 0 = .ok (.aload_n 0, 1) := by decide +kernel
theorem dX5_train_1 : decode cX5_train 1 = .ok (.iload_n 1, 1) := by decide +kernel
theorem dX5_train_2 : decode cX5_train 2 = .ok (.invokevirtual 81, 3) := by decide +kernel
theorem dX5_train_5 : decode cX5_train 5 = .ok (.ifCond .ne 9, 3) := by decide +kernel
theorem dX5_train_8 : decode cX5_train 8 = .ok (.aload_n 0, 1) := by decide +kernel
theorem dX5_train_9 : decode cX5_train 9 = .ok (.iconst 1, 1) := by decide +kernel
theorem dX5_train_10 : decode cX5_train 10 = .ok (.invokevirtual 36, 3) := by decide +kernel
theorem dX5_train_13 : decode cX5_train 13 = .ok (.ireturn, 1) := by decide +kernel
theorem dX5_train_14 : decode cX5_train 14 = .ok (.iload_n 2, 1) := by decide +kernel
theorem dX5_train_15 : decode cX5_train 15 = .ok (.iconst 0, 1) := by decide +kernel
theorem dX5_train_16 : decode cX5_train 16 = .ok (.bipush 9, 2) := by decide +kernel
theorem dX5_train_18 : decode cX5_train 18 = .ok (.invokestatic 43, 3) := by decide +kernel
theorem dX5_train_21 : decode cX5_train 21 = .ok (.ifCond .eq 16, 3) := by decide +kernel
theorem dX5_train_24 : decode cX5_train 24 = .ok (.aload_n 0, 1) := by decide +kernel
theorem dX5_train_25 : decode cX5_train 25 = .ok (.aload_n 0, 1) := by decide +kernel
theorem dX5_train_26 : decode cX5_train 26 = .ok (.iload_n 1, 1) := by decide +kernel
theorem dX5_train_27 : decode cX5_train 27 = .ok (.iload_n 2, 1) := by decide +kernel
theorem dX5_train_28 : decode cX5_train 28 = .ok (.invokevirtual 142, 3) := by decide +kernel
theorem dX5_train_31 : decode cX5_train 31 = .ok (.invokevirtual 40, 3) := by decide +kernel
theorem dX5_train_34 : decode cX5_train 34 = .ok (.goto 8, 3) := by decide +kernel
theorem dX5_train_37 : decode cX5_train 37 = .ok (.aload_n 0, 1) := by decide +kernel
theorem dX5_train_38 : decode cX5_train 38 = .ok (.iconst 2, 1) := by decide +kernel
theorem dX5_train_39 : decode cX5_train 39 = .ok (.invokevirtual 36, 3) := by decide +kernel
theorem dX5_train_42 : decode cX5_train 42 = .ok (.ireturn, 1) := by decide +kernel
set_option maxRecDepth 20000 in
theorem ggX5_trainOn_X5_of : GoodIn wsX5_trainOn wsX5_of := goodIn_r _ [6, 1, 7, 8, 9, 10, 11, 12, 13, 14] (by decide +kernel) (by decide +kernel)
set_option maxRecDepth 20000 in
theorem gX5_trainOn_X5_of : GoodIn wsX5_trainOn (wsV RX5 47 RX5 yX5_of wsX5_of) := goodIn_app (goodIn_of _ (by decide +kernel)) ggX5_trainOn_X5_of
theorem dX5_trainOn_0 : decode cX5_trainOn 0 = .ok (.iconst (-1), 1) := by decide +kernel
theorem dX5_trainOn_1 : decode cX5_trainOn 1 = .ok (.istore_n 2, 1) := by decide +kernel
theorem dX5_trainOn_2 : decode cX5_trainOn 2 = .ok (.iconst 0, 1) := by decide +kernel
theorem dX5_trainOn_3 : decode cX5_trainOn 3 = .ok (.istore_n 3, 1) := by decide +kernel
theorem dX5_trainOn_4 : decode cX5_trainOn 4 = .ok (.iload_n 3, 1) := by decide +kernel
theorem dX5_trainOn_5 : decode cX5_trainOn 5 = .ok (.aload_n 0, 1) := by decide +kernel
theorem dX5_trainOn_6 : decode cX5_trainOn 6 = .ok (.getfield 7, 3) := by decide +kernel
theorem dX5_trainOn_9 : decode cX5_trainOn 9 = .ok (.iconst 2, 1) := by decide +kernel
theorem dX5_trainOn_10 : decode cX5_trainOn 10 = .ok (.iaload, 1) := by decide +kernel
theorem dX5_trainOn_11 : decode cX5_trainOn 11 = .ok (.if_icmp .ge 25, 3) := by decide +kernel
theorem dX5_trainOn_14 : decode cX5_trainOn 14 = .ok (.aload_n 0, 1) := by decide +kernel
theorem dX5_trainOn_15 : decode cX5_trainOn 15 = .ok (.iload_n 3, 1) := by decide +kernel
theorem dX5_trainOn_16 : decode cX5_trainOn 16 = .ok (.iconst 0, 1) := by decide +kernel
theorem dX5_trainOn_17 : decode cX5_trainOn 17 = .ok (.invokevirtual 47, 3) := by decide +kernel
theorem dX5_trainOn_20 : decode cX5_trainOn 20 = .ok (.iload_n 1, 1) := by decide +kernel
theorem dX5_trainOn_21 : decode cX5_trainOn 21 = .ok (.if_icmp .ne 7, 3) := by decide +kernel
theorem dX5_trainOn_24 : decode cX5_trainOn 24 = .ok (.iload_n 3, 1) := by decide +kernel
theorem dX5_trainOn_25 : decode cX5_trainOn 25 = .ok (.goto 4, 3) := by decide +kernel
theorem dX5_trainOn_28 : decode cX5_trainOn 28 = .ok (.iload_n 2, 1) := by decide +kernel
theorem dX5_trainOn_29 : decode cX5_trainOn 29 = .ok (.istore_n 2, 1) := by decide +kernel
theorem dX5_trainOn_30 : decode cX5_trainOn 30 = .ok (.iinc 3 1, 3) := by decide +kernel
theorem dX5_trainOn_33 : decode cX5_trainOn 33 = .ok (.goto (-29), 3) := by decide +kernel
theorem dX5_trainOn_36 : decode cX5_trainOn 36 = .ok (.iload_n 2, 1) := by decide +kernel
theorem dX5_trainOn_37 : decode cX5_trainOn 37 = .ok (.ireturn, 1) := by decide +kernel
set_option maxRecDepth 20000 in
theorem ggX5_cellOf_X5_blockAt : GoodIn wsX5_cellOf wsX5_blockAt := goodIn_r _ [6, 1, 15, 16, 17, 18, 19, 20, 21, 22] (by decide +kernel) (by decide +kernel)
set_option maxRecDepth 20000 in
theorem gX5_cellOf_X5_blockAt : GoodIn wsX5_cellOf (wsV RX5 51 RX5 yX5_blockAt wsX5_blockAt) := goodIn_app (goodIn_of _ (by decide +kernel)) ggX5_cellOf_X5_blockAt
set_option maxRecDepth 20000 in
theorem ggX5_cellOf_X5_trainOn : GoodIn wsX5_cellOf wsX5_trainOn := goodIn_r _ [10, 1, 11, 12, 13, 5, 14, 15, 16, 17, 18, 19, 20, 21, 22] (by decide +kernel) (by decide +kernel)
set_option maxRecDepth 20000 in
theorem gX5_cellOf_X5_trainOn : GoodIn wsX5_cellOf (wsV RX5 145 RX5 yX5_trainOn wsX5_trainOn) := goodIn_app (goodIn_of _ (by decide +kernel)) ggX5_cellOf_X5_trainOn
theorem dX5_cellOf_0 : decode cX5_cellOf 0 = .ok (.iload_n 2, 1) := by decide +kernel
theorem dX5_cellOf_1 : decode cX5_cellOf 1 = .ok (.ifCond .ne 15, 3) := by decide +kernel
theorem dX5_cellOf_4 : decode cX5_cellOf 4 = .ok (.aload_n 0, 1) := by decide +kernel
theorem dX5_cellOf_5 : decode cX5_cellOf 5 = .ok (.getfield 7, 3) := by decide +kernel
theorem dX5_cellOf_8 : decode cX5_cellOf 8 = .ok (.bipush 11, 2) := by decide +kernel
theorem dX5_cellOf_10 : decode cX5_cellOf 10 = .ok (.iload_n 1, 1) := by decide +kernel
theorem dX5_cellOf_11 : decode cX5_cellOf 11 = .ok (.iadd, 1) := by decide +kernel
theorem dX5_cellOf_12 : decode cX5_cellOf 12 = .ok (.iaload, 1) := by decide +kernel
theorem dX5_cellOf_13 : decode cX5_cellOf 13 = .ok (.goto 38, 3) := by decide +kernel
theorem dX5_cellOf_16 : decode cX5_cellOf 16 = .ok (.iload_n 2, 1) := by decide +kernel
theorem dX5_cellOf_17 : decode cX5_cellOf 17 = .ok (.iconst 1, 1) := by decide +kernel
theorem dX5_cellOf_18 : decode cX5_cellOf 18 = .ok (.if_icmp .ne 15, 3) := by decide +kernel
theorem dX5_cellOf_21 : decode cX5_cellOf 21 = .ok (.aload_n 0, 1) := by decide +kernel
theorem dX5_cellOf_22 : decode cX5_cellOf 22 = .ok (.getfield 7, 3) := by decide +kernel
theorem dX5_cellOf_25 : decode cX5_cellOf 25 = .ok (.bipush 41, 2) := by decide +kernel
theorem dX5_cellOf_27 : decode cX5_cellOf 27 = .ok (.iload_n 1, 1) := by decide +kernel
theorem dX5_cellOf_28 : decode cX5_cellOf 28 = .ok (.iadd, 1) := by decide +kernel
theorem dX5_cellOf_29 : decode cX5_cellOf 29 = .ok (.iaload, 1) := by decide +kernel
theorem dX5_cellOf_30 : decode cX5_cellOf 30 = .ok (.goto 21, 3) := by decide +kernel
theorem dX5_cellOf_33 : decode cX5_cellOf 33 = .ok (.iload_n 2, 1) := by decide +kernel
theorem dX5_cellOf_34 : decode cX5_cellOf 34 = .ok (.iconst 2, 1) := by decide +kernel
theorem dX5_cellOf_35 : decode cX5_cellOf 35 = .ok (.if_icmp .ne 11, 3) := by decide +kernel
theorem dX5_cellOf_38 : decode cX5_cellOf 38 = .ok (.aload_n 0, 1) := by decide +kernel
theorem dX5_cellOf_39 : decode cX5_cellOf 39 = .ok (.iload_n 1, 1) := by decide +kernel
theorem dX5_cellOf_40 : decode cX5_cellOf 40 = .ok (.invokevirtual 51, 3) := by decide +kernel
theorem dX5_cellOf_43 : decode cX5_cellOf 43 = .ok (.goto 8, 3) := by decide +kernel
theorem dX5_cellOf_46 : decode cX5_cellOf 46 = .ok (.aload_n 0, 1) := by decide +kernel
theorem dX5_cellOf_47 : decode cX5_cellOf 47 = .ok (.iload_n 1, 1) := by decide +kernel
theorem dX5_cellOf_48 : decode cX5_cellOf 48 = .ok (.invokevirtual 145, 3) := by decide +kernel
theorem dX5_cellOf_51 : decode cX5_cellOf 51 = .ok (.ireturn, 1) := by decide +kernel
set_option maxRecDepth 20000 in
theorem ggX5_cell_X5_isCell : GoodIn wsX5_cell wsX5_isCell := goodIn_r _ [5, 6, 7, 8, 4, 9, 35, 36, 37, 38, 39, 40, 41, 42] (by decide +kernel) (by decide +kernel)
set_option maxRecDepth 20000 in
theorem gX5_cell_X5_isCell : GoodIn wsX5_cell (wsV RX5 88 RX5 yX5_isCell wsX5_isCell) := goodIn_app (goodIn_of _ (by decide +kernel)) ggX5_cell_X5_isCell
set_option maxRecDepth 20000 in
theorem ggX5_cell_X5_fails : GoodIn wsX5_cell wsX5_fails := goodIn_r _ [13, 14, 35, 36, 37, 38, 39, 40, 41, 42] (by decide +kernel) (by decide +kernel)
set_option maxRecDepth 20000 in
theorem gX5_cell_X5_fails : GoodIn wsX5_cell (wsV RX5 36 RX5 yX5_fails wsX5_fails) := goodIn_app (goodIn_of _ (by decide +kernel)) ggX5_cell_X5_fails
set_option maxRecDepth 20000 in
theorem ggX5_cell_X5_in : GoodIn wsX5_cell wsX5_in := goodIn_r _ [9] (by decide +kernel) (by decide +kernel)
set_option maxRecDepth 20000 in
theorem gX5_cell_X5_in : GoodIn wsX5_cell (va_wsS RX5 43 yX5_in wsX5_in) := goodIn_app (goodIn_of _ (by decide +kernel)) ggX5_cell_X5_in
set_option maxRecDepth 20000 in
theorem ggX5_cell_X5_cellOf : GoodIn wsX5_cell wsX5_cellOf := goodIn_r _ [18, 6, 19, 20, 21, 4, 22, 23, 24, 25, 26, 27, 28, 29, 30, 35, 36, 37, 38, 39, 40, 41, 42] (by decide +kernel) (by decide +kernel)
set_option maxRecDepth 20000 in
theorem gX5_cell_X5_cellOf : GoodIn wsX5_cell (wsV RX5 148 RX5 yX5_cellOf wsX5_cellOf) := goodIn_app (goodIn_of _ (by decide +kernel)) ggX5_cell_X5_cellOf
set_option maxRecDepth 20000 in
theorem ggX5_cell_X5_tells : GoodIn wsX5_cell wsX5_tells := goodIn_r _ [34, 14, 35, 36, 37, 38, 39, 40, 41, 42] (by decide +kernel) (by decide +kernel)
set_option maxRecDepth 20000 in
theorem gX5_cell_X5_tells : GoodIn wsX5_cell (wsV RX5 40 RX5 yX5_tells wsX5_tells) := goodIn_app (goodIn_of _ (by decide +kernel)) ggX5_cell_X5_tells
theorem dX5_cell_0 : decode cX5_cell 0 = .ok (.aload_n 0, 1) := by decide +kernel
theorem dX5_cell_1 : decode cX5_cell 1 = .ok (.iload_n 1, 1) := by decide +kernel
theorem dX5_cell_2 : decode cX5_cell 2 = .ok (.invokevirtual 88, 3) := by decide +kernel
theorem dX5_cell_5 : decode cX5_cell 5 = .ok (.ifCond .ne 9, 3) := by decide +kernel
theorem dX5_cell_8 : decode cX5_cell 8 = .ok (.aload_n 0, 1) := by decide +kernel
theorem dX5_cell_9 : decode cX5_cell 9 = .ok (.iconst 1, 1) := by decide +kernel
theorem dX5_cell_10 : decode cX5_cell 10 = .ok (.invokevirtual 36, 3) := by decide +kernel
theorem dX5_cell_13 : decode cX5_cell 13 = .ok (.ireturn, 1) := by decide +kernel
theorem dX5_cell_14 : decode cX5_cell 14 = .ok (.iload_n 2, 1) := by decide +kernel
theorem dX5_cell_15 : decode cX5_cell 15 = .ok (.iconst 0, 1) := by decide +kernel
theorem dX5_cell_16 : decode cX5_cell 16 = .ok (.iconst 3, 1) := by decide +kernel
theorem dX5_cell_17 : decode cX5_cell 17 = .ok (.invokestatic 43, 3) := by decide +kernel
theorem dX5_cell_20 : decode cX5_cell 20 = .ok (.ifCond .eq 16, 3) := by decide +kernel
theorem dX5_cell_23 : decode cX5_cell 23 = .ok (.aload_n 0, 1) := by decide +kernel
theorem dX5_cell_24 : decode cX5_cell 24 = .ok (.aload_n 0, 1) := by decide +kernel
theorem dX5_cell_25 : decode cX5_cell 25 = .ok (.iload_n 1, 1) := by decide +kernel
theorem dX5_cell_26 : decode cX5_cell 26 = .ok (.iload_n 2, 1) := by decide +kernel
theorem dX5_cell_27 : decode cX5_cell 27 = .ok (.invokevirtual 148, 3) := by decide +kernel
theorem dX5_cell_30 : decode cX5_cell 30 = .ok (.invokevirtual 40, 3) := by decide +kernel
theorem dX5_cell_33 : decode cX5_cell 33 = .ok (.goto 8, 3) := by decide +kernel
theorem dX5_cell_36 : decode cX5_cell 36 = .ok (.aload_n 0, 1) := by decide +kernel
theorem dX5_cell_37 : decode cX5_cell 37 = .ok (.iconst 2, 1) := by decide +kernel
theorem dX5_cell_38 : decode cX5_cell 38 = .ok (.invokevirtual 36, 3) := by decide +kernel
theorem dX5_cell_41 : decode cX5_cell 41 = .ok (.ireturn, 1) := by decide +kernel
set_option maxRecDepth 20000 in
theorem ggX5_cellsOf_X5_blockAt : GoodIn wsX5_cellsOf wsX5_blockAt := goodIn_r _ [6, 1, 7, 8, 9, 10, 11, 12, 13, 14] (by decide +kernel) (by decide +kernel)
set_option maxRecDepth 20000 in
theorem gX5_cellsOf_X5_blockAt : GoodIn wsX5_cellsOf (wsV RX5 51 RX5 yX5_blockAt wsX5_blockAt) := goodIn_app (goodIn_of _ (by decide +kernel)) ggX5_cellsOf_X5_blockAt
theorem dX5_cellsOf_0 : decode cX5_cellsOf 0 = .ok (.iconst 0, 1) := by decide +kernel
theorem dX5_cellsOf_1 : decode cX5_cellsOf 1 = .ok (.istore_n 2, 1) := by decide +kernel
theorem dX5_cellsOf_2 : decode cX5_cellsOf 2 = .ok (.iconst 0, 1) := by decide +kernel
theorem dX5_cellsOf_3 : decode cX5_cellsOf 3 = .ok (.istore_n 3, 1) := by decide +kernel
theorem dX5_cellsOf_4 : decode cX5_cellsOf 4 = .ok (.iload_n 3, 1) := by decide +kernel
theorem dX5_cellsOf_5 : decode cX5_cellsOf 5 = .ok (.aload_n 0, 1) := by decide +kernel
theorem dX5_cellsOf_6 : decode cX5_cellsOf 6 = .ok (.getfield 7, 3) := by decide +kernel
theorem dX5_cellsOf_9 : decode cX5_cellsOf 9 = .ok (.iconst 0, 1) := by decide +kernel
theorem dX5_cellsOf_10 : decode cX5_cellsOf 10 = .ok (.iaload, 1) := by decide +kernel
theorem dX5_cellsOf_11 : decode cX5_cellsOf 11 = .ok (.if_icmp .ge 26, 3) := by decide +kernel
theorem dX5_cellsOf_14 : decode cX5_cellsOf 14 = .ok (.iload_n 2, 1) := by decide +kernel
theorem dX5_cellsOf_15 : decode cX5_cellsOf 15 = .ok (.aload_n 0, 1) := by decide +kernel
theorem dX5_cellsOf_16 : decode cX5_cellsOf 16 = .ok (.iload_n 3, 1) := by decide +kernel
theorem dX5_cellsOf_17 : decode cX5_cellsOf 17 = .ok (.invokevirtual 51, 3) := by decide +kernel
theorem dX5_cellsOf_20 : decode cX5_cellsOf 20 = .ok (.iload_n 1, 1) := by decide +kernel
theorem dX5_cellsOf_21 : decode cX5_cellsOf 21 = .ok (.if_icmp .ne 7, 3) := by decide +kernel
theorem dX5_cellsOf_24 : decode cX5_cellsOf 24 = .ok (.iconst 1, 1) := by decide +kernel
theorem dX5_cellsOf_25 : decode cX5_cellsOf 25 = .ok (.goto 4, 3) := by decide +kernel
theorem dX5_cellsOf_28 : decode cX5_cellsOf 28 = .ok (.iconst 0, 1) := by decide +kernel
theorem dX5_cellsOf_29 : decode cX5_cellsOf 29 = .ok (.iadd, 1) := by decide +kernel
theorem dX5_cellsOf_30 : decode cX5_cellsOf 30 = .ok (.istore_n 2, 1) := by decide +kernel
theorem dX5_cellsOf_31 : decode cX5_cellsOf 31 = .ok (.iinc 3 1, 3) := by decide +kernel
theorem dX5_cellsOf_34 : decode cX5_cellsOf 34 = .ok (.goto (-30), 3) := by decide +kernel
theorem dX5_cellsOf_37 : decode cX5_cellsOf 37 = .ok (.iload_n 2, 1) := by decide +kernel
theorem dX5_cellsOf_38 : decode cX5_cellsOf 38 = .ok (.ireturn, 1) := by decide +kernel
set_option maxRecDepth 20000 in
theorem ggX5_blockOf_X5_blockAhead : GoodIn wsX5_blockOf wsX5_blockAhead := goodIn_r _ [6, 1, 31, 32, 33, 34, 35, 36, 37, 38] (by decide +kernel) (by decide +kernel)
set_option maxRecDepth 20000 in
theorem gX5_blockOf_X5_blockAhead : GoodIn wsX5_blockOf (wsV RX5 57 RX5 yX5_blockAhead wsX5_blockAhead) := goodIn_app (goodIn_of _ (by decide +kernel)) ggX5_blockOf_X5_blockAhead
set_option maxRecDepth 20000 in
theorem ggX5_blockOf_X5_brakeOf : GoodIn wsX5_blockOf wsX5_brakeOf := goodIn_r _ [10, 1, 31, 32, 33, 34, 35, 36, 37, 38] (by decide +kernel) (by decide +kernel)
set_option maxRecDepth 20000 in
theorem gX5_blockOf_X5_brakeOf : GoodIn wsX5_blockOf (wsV RX5 60 RX5 yX5_brakeOf wsX5_brakeOf) := goodIn_app (goodIn_of _ (by decide +kernel)) ggX5_blockOf_X5_brakeOf
set_option maxRecDepth 20000 in
theorem ggX5_blockOf_X5_after : GoodIn wsX5_blockOf wsX5_after := goodIn_r _ [14, 1, 31, 32, 33, 34, 35, 36, 37, 38] (by decide +kernel) (by decide +kernel)
set_option maxRecDepth 20000 in
theorem gX5_blockOf_X5_after : GoodIn wsX5_blockOf (wsV RX5 107 RX5 yX5_after wsX5_after) := goodIn_app (goodIn_of _ (by decide +kernel)) ggX5_blockOf_X5_after
set_option maxRecDepth 20000 in
theorem ggX5_blockOf_X5_cellsOf : GoodIn wsX5_blockOf wsX5_cellsOf := goodIn_r _ [18, 1, 19, 20, 21, 5, 22, 31, 32, 33, 34, 35, 36, 37, 38] (by decide +kernel) (by decide +kernel)
set_option maxRecDepth 20000 in
theorem gX5_blockOf_X5_cellsOf : GoodIn wsX5_blockOf (wsV RX5 151 RX5 yX5_cellsOf wsX5_cellsOf) := goodIn_app (goodIn_of _ (by decide +kernel)) ggX5_blockOf_X5_cellsOf
set_option maxRecDepth 20000 in
theorem ggX5_blockOf_X5_trainIn : GoodIn wsX5_blockOf wsX5_trainIn := goodIn_r _ [26, 1, 27, 28, 29, 5, 30, 19, 20, 21, 22, 31, 32, 33, 34, 35, 36, 37, 38] (by decide +kernel) (by decide +kernel)
set_option maxRecDepth 20000 in
theorem gX5_blockOf_X5_trainIn : GoodIn wsX5_blockOf (wsV RX5 54 RX5 yX5_trainIn wsX5_trainIn) := goodIn_app (goodIn_of _ (by decide +kernel)) ggX5_blockOf_X5_trainIn
theorem dX5_blockOf_0 : decode cX5_blockOf 0 = .ok (.iload_n 2, 1) := by decide +kernel
theorem dX5_blockOf_1 : decode cX5_blockOf 1 = .ok (.tableswitch 63 0 3 #[31, 45, 51, 57], 31) := by decide +kernel
theorem dX5_blockOf_32 : decode cX5_blockOf 32 = .ok (.aload_n 0, 1) := by decide +kernel
theorem dX5_blockOf_33 : decode cX5_blockOf 33 = .ok (.aload_n 0, 1) := by decide +kernel
theorem dX5_blockOf_34 : decode cX5_blockOf 34 = .ok (.aload_n 0, 1) := by decide +kernel
theorem dX5_blockOf_35 : decode cX5_blockOf 35 = .ok (.iload_n 1, 1) := by decide +kernel
theorem dX5_blockOf_36 : decode cX5_blockOf 36 = .ok (.invokevirtual 57, 3) := by decide +kernel
theorem dX5_blockOf_39 : decode cX5_blockOf 39 = .ok (.invokevirtual 60, 3) := by decide +kernel
theorem dX5_blockOf_42 : decode cX5_blockOf 42 = .ok (.invokevirtual 107, 3) := by decide +kernel
theorem dX5_blockOf_45 : decode cX5_blockOf 45 = .ok (.ireturn, 1) := by decide +kernel
theorem dX5_blockOf_46 : decode cX5_blockOf 46 = .ok (.aload_n 0, 1) := by decide +kernel
theorem dX5_blockOf_47 : decode cX5_blockOf 47 = .ok (.iload_n 1, 1) := by decide +kernel
theorem dX5_blockOf_48 : decode cX5_blockOf 48 = .ok (.invokevirtual 60, 3) := by decide +kernel
theorem dX5_blockOf_51 : decode cX5_blockOf 51 = .ok (.ireturn, 1) := by decide +kernel
theorem dX5_blockOf_52 : decode cX5_blockOf 52 = .ok (.aload_n 0, 1) := by decide +kernel
theorem dX5_blockOf_53 : decode cX5_blockOf 53 = .ok (.iload_n 1, 1) := by decide +kernel
theorem dX5_blockOf_54 : decode cX5_blockOf 54 = .ok (.invokevirtual 151, 3) := by decide +kernel
theorem dX5_blockOf_57 : decode cX5_blockOf 57 = .ok (.ireturn, 1) := by decide +kernel
theorem dX5_blockOf_58 : decode cX5_blockOf 58 = .ok (.aload_n 0, 1) := by decide +kernel
theorem dX5_blockOf_59 : decode cX5_blockOf 59 = .ok (.iload_n 1, 1) := by decide +kernel
theorem dX5_blockOf_60 : decode cX5_blockOf 60 = .ok (.invokevirtual 54, 3) := by decide +kernel
theorem dX5_blockOf_63 : decode cX5_blockOf 63 = .ok (.ireturn, 1) := by decide +kernel
theorem dX5_blockOf_64 : decode cX5_blockOf 64 = .ok (.aload_n 0, 1) := by decide +kernel
theorem dX5_blockOf_65 : decode cX5_blockOf 65 = .ok (.getfield 7, 3) := by decide +kernel
theorem dX5_blockOf_68 : decode cX5_blockOf 68 = .ok (.bipush 71, 2) := by decide +kernel
theorem dX5_blockOf_70 : decode cX5_blockOf 70 = .ok (.iload_n 1, 1) := by decide +kernel
theorem dX5_blockOf_71 : decode cX5_blockOf 71 = .ok (.iadd, 1) := by decide +kernel
theorem dX5_blockOf_72 : decode cX5_blockOf 72 = .ok (.iaload, 1) := by decide +kernel
theorem dX5_blockOf_73 : decode cX5_blockOf 73 = .ok (.ireturn, 1) := by decide +kernel
set_option maxRecDepth 20000 in
theorem ggX5_block_X5_isBlock : GoodIn wsX5_block wsX5_isBlock := goodIn_r _ [5, 6, 7, 8, 4, 9, 51, 52, 53, 54, 55, 56, 57, 58] (by decide +kernel) (by decide +kernel)
set_option maxRecDepth 20000 in
theorem gX5_block_X5_isBlock : GoodIn wsX5_block (wsV RX5 67 RX5 yX5_isBlock wsX5_isBlock) := goodIn_app (goodIn_of _ (by decide +kernel)) ggX5_block_X5_isBlock
set_option maxRecDepth 20000 in
theorem ggX5_block_X5_fails : GoodIn wsX5_block wsX5_fails := goodIn_r _ [13, 14, 51, 52, 53, 54, 55, 56, 57, 58] (by decide +kernel) (by decide +kernel)
set_option maxRecDepth 20000 in
theorem gX5_block_X5_fails : GoodIn wsX5_block (wsV RX5 36 RX5 yX5_fails wsX5_fails) := goodIn_app (goodIn_of _ (by decide +kernel)) ggX5_block_X5_fails
set_option maxRecDepth 20000 in
theorem ggX5_block_X5_in : GoodIn wsX5_block wsX5_in := goodIn_r _ [9] (by decide +kernel) (by decide +kernel)
set_option maxRecDepth 20000 in
theorem gX5_block_X5_in : GoodIn wsX5_block (va_wsS RX5 43 yX5_in wsX5_in) := goodIn_app (goodIn_of _ (by decide +kernel)) ggX5_block_X5_in
set_option maxRecDepth 20000 in
theorem ggX5_block_X5_blockOf : GoodIn wsX5_block wsX5_blockOf := goodIn_r _ [18, 6, 19, 20, 21, 4, 22, 23, 24, 25, 26, 27, 28, 29, 30, 31, 32, 33, 34, 35, 36, 37, 38, 39, 40, 41, 42, 43, 44, 45, 46, 51, 52, 53, 54, 55, 56, 57, 58] (by decide +kernel) (by decide +kernel)
set_option maxRecDepth 20000 in
theorem gX5_block_X5_blockOf : GoodIn wsX5_block (wsV RX5 154 RX5 yX5_blockOf wsX5_blockOf) := goodIn_app (goodIn_of _ (by decide +kernel)) ggX5_block_X5_blockOf
set_option maxRecDepth 20000 in
theorem ggX5_block_X5_tells : GoodIn wsX5_block wsX5_tells := goodIn_r _ [50, 14, 51, 52, 53, 54, 55, 56, 57, 58] (by decide +kernel) (by decide +kernel)
set_option maxRecDepth 20000 in
theorem gX5_block_X5_tells : GoodIn wsX5_block (wsV RX5 40 RX5 yX5_tells wsX5_tells) := goodIn_app (goodIn_of _ (by decide +kernel)) ggX5_block_X5_tells
theorem dX5_block_0 : decode cX5_block 0 = .ok (.aload_n 0, 1) := by decide +kernel
theorem dX5_block_1 : decode cX5_block 1 = .ok (.iload_n 1, 1) := by decide +kernel
theorem dX5_block_2 : decode cX5_block 2 = .ok (.invokevirtual 67, 3) := by decide +kernel
theorem dX5_block_5 : decode cX5_block 5 = .ok (.ifCond .ne 9, 3) := by decide +kernel
theorem dX5_block_8 : decode cX5_block 8 = .ok (.aload_n 0, 1) := by decide +kernel
theorem dX5_block_9 : decode cX5_block 9 = .ok (.iconst 1, 1) := by decide +kernel
theorem dX5_block_10 : decode cX5_block 10 = .ok (.invokevirtual 36, 3) := by decide +kernel
theorem dX5_block_13 : decode cX5_block 13 = .ok (.ireturn, 1) := by decide +kernel
theorem dX5_block_14 : decode cX5_block 14 = .ok (.iload_n 2, 1) := by decide +kernel
theorem dX5_block_15 : decode cX5_block 15 = .ok (.iconst 0, 1) := by decide +kernel
theorem dX5_block_16 : decode cX5_block 16 = .ok (.iconst 4, 1) := by decide +kernel
theorem dX5_block_17 : decode cX5_block 17 = .ok (.invokestatic 43, 3) := by decide +kernel
theorem dX5_block_20 : decode cX5_block 20 = .ok (.ifCond .eq 16, 3) := by decide +kernel
theorem dX5_block_23 : decode cX5_block 23 = .ok (.aload_n 0, 1) := by decide +kernel
theorem dX5_block_24 : decode cX5_block 24 = .ok (.aload_n 0, 1) := by decide +kernel
theorem dX5_block_25 : decode cX5_block 25 = .ok (.iload_n 1, 1) := by decide +kernel
theorem dX5_block_26 : decode cX5_block 26 = .ok (.iload_n 2, 1) := by decide +kernel
theorem dX5_block_27 : decode cX5_block 27 = .ok (.invokevirtual 154, 3) := by decide +kernel
theorem dX5_block_30 : decode cX5_block 30 = .ok (.invokevirtual 40, 3) := by decide +kernel
theorem dX5_block_33 : decode cX5_block 33 = .ok (.goto 8, 3) := by decide +kernel
theorem dX5_block_36 : decode cX5_block 36 = .ok (.aload_n 0, 1) := by decide +kernel
theorem dX5_block_37 : decode cX5_block 37 = .ok (.iconst 2, 1) := by decide +kernel
theorem dX5_block_38 : decode cX5_block 38 = .ok (.invokevirtual 36, 3) := by decide +kernel
theorem dX5_block_41 : decode cX5_block 41 = .ok (.ireturn, 1) := by decide +kernel
set_option maxRecDepth 20000 in
theorem ggX5_lyingOnes_X5_of : GoodIn wsX5_lyingOnes wsX5_of := goodIn_r _ [6, 1, 7, 8, 9, 10, 11, 12, 13, 14] (by decide +kernel) (by decide +kernel)
set_option maxRecDepth 20000 in
theorem gX5_lyingOnes_X5_of : GoodIn wsX5_lyingOnes (wsV RX5 47 RX5 yX5_of wsX5_of) := goodIn_app (goodIn_of _ (by decide +kernel)) ggX5_lyingOnes_X5_of
theorem dX5_lyingOnes_0 : decode cX5_lyingOnes 0 = .ok (.iconst 0, 1) := by decide +kernel
theorem dX5_lyingOnes_1 : decode cX5_lyingOnes 1 = .ok (.istore_n 1, 1) := by decide +kernel
theorem dX5_lyingOnes_2 : decode cX5_lyingOnes 2 = .ok (.iconst 0, 1) := by decide +kernel
theorem dX5_lyingOnes_3 : decode cX5_lyingOnes 3 = .ok (.istore_n 2, 1) := by decide +kernel
theorem dX5_lyingOnes_4 : decode cX5_lyingOnes 4 = .ok (.iload_n 2, 1) := by decide +kernel
theorem dX5_lyingOnes_5 : decode cX5_lyingOnes 5 = .ok (.aload_n 0, 1) := by decide +kernel
theorem dX5_lyingOnes_6 : decode cX5_lyingOnes 6 = .ok (.getfield 7, 3) := by decide +kernel
theorem dX5_lyingOnes_9 : decode cX5_lyingOnes 9 = .ok (.iconst 2, 1) := by decide +kernel
theorem dX5_lyingOnes_10 : decode cX5_lyingOnes 10 = .ok (.iaload, 1) := by decide +kernel
theorem dX5_lyingOnes_11 : decode cX5_lyingOnes 11 = .ok (.if_icmp .ge 27, 3) := by decide +kernel
theorem dX5_lyingOnes_14 : decode cX5_lyingOnes 14 = .ok (.iload_n 1, 1) := by decide +kernel
theorem dX5_lyingOnes_15 : decode cX5_lyingOnes 15 = .ok (.aload_n 0, 1) := by decide +kernel
theorem dX5_lyingOnes_16 : decode cX5_lyingOnes 16 = .ok (.iload_n 2, 1) := by decide +kernel
theorem dX5_lyingOnes_17 : decode cX5_lyingOnes 17 = .ok (.iconst 4, 1) := by decide +kernel
theorem dX5_lyingOnes_18 : decode cX5_lyingOnes 18 = .ok (.invokevirtual 47, 3) := by decide +kernel
theorem dX5_lyingOnes_21 : decode cX5_lyingOnes 21 = .ok (.iconst 2, 1) := by decide +kernel
theorem dX5_lyingOnes_22 : decode cX5_lyingOnes 22 = .ok (.if_icmp .ne 7, 3) := by decide +kernel
theorem dX5_lyingOnes_25 : decode cX5_lyingOnes 25 = .ok (.iconst 1, 1) := by decide +kernel
theorem dX5_lyingOnes_26 : decode cX5_lyingOnes 26 = .ok (.goto 4, 3) := by decide +kernel
theorem dX5_lyingOnes_29 : decode cX5_lyingOnes 29 = .ok (.iconst 0, 1) := by decide +kernel
theorem dX5_lyingOnes_30 : decode cX5_lyingOnes 30 = .ok (.iadd, 1) := by decide +kernel
theorem dX5_lyingOnes_31 : decode cX5_lyingOnes 31 = .ok (.istore_n 1, 1) := by decide +kernel
theorem dX5_lyingOnes_32 : decode cX5_lyingOnes 32 = .ok (.iinc 2 1, 3) := by decide +kernel
theorem dX5_lyingOnes_35 : decode cX5_lyingOnes 35 = .ok (.goto (-31), 3) := by decide +kernel
theorem dX5_lyingOnes_38 : decode cX5_lyingOnes 38 = .ok (.iload_n 1, 1) := by decide +kernel
theorem dX5_lyingOnes_39 : decode cX5_lyingOnes 39 = .ok (.ireturn, 1) := by decide +kernel
theorem dX5_highest_0 : decode cX5_highest 0 = .ok (.iconst 0, 1) := by decide +kernel
theorem dX5_highest_1 : decode cX5_highest 1 = .ok (.istore_n 1, 1) := by decide +kernel
theorem dX5_highest_2 : decode cX5_highest 2 = .ok (.iconst 0, 1) := by decide +kernel
theorem dX5_highest_3 : decode cX5_highest 3 = .ok (.istore_n 2, 1) := by decide +kernel
theorem dX5_highest_4 : decode cX5_highest 4 = .ok (.iload_n 2, 1) := by decide +kernel
theorem dX5_highest_5 : decode cX5_highest 5 = .ok (.aload_n 0, 1) := by decide +kernel
theorem dX5_highest_6 : decode cX5_highest 6 = .ok (.getfield 7, 3) := by decide +kernel
theorem dX5_highest_9 : decode cX5_highest 9 = .ok (.iconst 0, 1) := by decide +kernel
theorem dX5_highest_10 : decode cX5_highest 10 = .ok (.iaload, 1) := by decide +kernel
theorem dX5_highest_11 : decode cX5_highest 11 = .ok (.if_icmp .ge 36, 3) := by decide +kernel
theorem dX5_highest_14 : decode cX5_highest 14 = .ok (.aload_n 0, 1) := by decide +kernel
theorem dX5_highest_15 : decode cX5_highest 15 = .ok (.getfield 7, 3) := by decide +kernel
theorem dX5_highest_18 : decode cX5_highest 18 = .ok (.bipush 11, 2) := by decide +kernel
theorem dX5_highest_20 : decode cX5_highest 20 = .ok (.iload_n 2, 1) := by decide +kernel
theorem dX5_highest_21 : decode cX5_highest 21 = .ok (.iadd, 1) := by decide +kernel
theorem dX5_highest_22 : decode cX5_highest 22 = .ok (.iaload, 1) := by decide +kernel
theorem dX5_highest_23 : decode cX5_highest 23 = .ok (.iload_n 1, 1) := by decide +kernel
theorem dX5_highest_24 : decode cX5_highest 24 = .ok (.if_icmp .le 15, 3) := by decide +kernel
theorem dX5_highest_27 : decode cX5_highest 27 = .ok (.aload_n 0, 1) := by decide +kernel
theorem dX5_highest_28 : decode cX5_highest 28 = .ok (.getfield 7, 3) := by decide +kernel
theorem dX5_highest_31 : decode cX5_highest 31 = .ok (.bipush 11, 2) := by decide +kernel
theorem dX5_highest_33 : decode cX5_highest 33 = .ok (.iload_n 2, 1) := by decide +kernel
theorem dX5_highest_34 : decode cX5_highest 34 = .ok (.iadd, 1) := by decide +kernel
theorem dX5_highest_35 : decode cX5_highest 35 = .ok (.iaload, 1) := by decide +kernel
theorem dX5_highest_36 : decode cX5_highest 36 = .ok (.goto 4, 3) := by decide +kernel
theorem dX5_highest_39 : decode cX5_highest 39 = .ok (.iload_n 1, 1) := by decide +kernel
theorem dX5_highest_40 : decode cX5_highest 40 = .ok (.istore_n 1, 1) := by decide +kernel
theorem dX5_highest_41 : decode cX5_highest 41 = .ok (.iinc 2 1, 3) := by decide +kernel
theorem dX5_highest_44 : decode cX5_highest 44 = .ok (.goto (-40), 3) := by decide +kernel
theorem dX5_highest_47 : decode cX5_highest 47 = .ok (.iload_n 1, 1) := by decide +kernel
theorem dX5_highest_48 : decode cX5_highest 48 = .ok (.ireturn, 1) := by decide +kernel
set_option maxRecDepth 20000 in
theorem ggX5_valueOf_X5_lyingOnes : GoodIn wsX5_valueOf wsX5_lyingOnes := goodIn_r _ [6, 1, 7, 8, 9, 5, 10, 15, 16, 17, 18, 19, 20, 21, 22] (by decide +kernel) (by decide +kernel)
set_option maxRecDepth 20000 in
theorem gX5_valueOf_X5_lyingOnes : GoodIn wsX5_valueOf (wsV RX5 157 RX5 yX5_lyingOnes wsX5_lyingOnes) := goodIn_app (goodIn_of _ (by decide +kernel)) ggX5_valueOf_X5_lyingOnes
set_option maxRecDepth 20000 in
theorem ggX5_valueOf_X5_highest : GoodIn wsX5_valueOf wsX5_highest := goodIn_r _ [14, 1, 15, 16, 17, 18, 19, 20, 21, 22] (by decide +kernel) (by decide +kernel)
set_option maxRecDepth 20000 in
theorem gX5_valueOf_X5_highest : GoodIn wsX5_valueOf (wsV RX5 161 RX5 yX5_highest wsX5_highest) := goodIn_app (goodIn_of _ (by decide +kernel)) ggX5_valueOf_X5_highest
theorem dX5_valueOf_0 : decode cX5_valueOf 0 = .ok (.iload_n 1, 1) := by decide +kernel
theorem dX5_valueOf_1 : decode cX5_valueOf 1 = .ok (.bipush 10, 2) := by decide +kernel
theorem dX5_valueOf_3 : decode cX5_valueOf 3 = .ok (.if_icmp .ge 12, 3) := by decide +kernel
theorem dX5_valueOf_6 : decode cX5_valueOf 6 = .ok (.aload_n 0, 1) := by decide +kernel
theorem dX5_valueOf_7 : decode cX5_valueOf 7 = .ok (.getfield 7, 3) := by decide +kernel
theorem dX5_valueOf_10 : decode cX5_valueOf 10 = .ok (.iload_n 1, 1) := by decide +kernel
theorem dX5_valueOf_11 : decode cX5_valueOf 11 = .ok (.iaload, 1) := by decide +kernel
theorem dX5_valueOf_12 : decode cX5_valueOf 12 = .ok (.goto 20, 3) := by decide +kernel
theorem dX5_valueOf_15 : decode cX5_valueOf 15 = .ok (.iload_n 1, 1) := by decide +kernel
theorem dX5_valueOf_16 : decode cX5_valueOf 16 = .ok (.bipush 10, 2) := by decide +kernel
theorem dX5_valueOf_18 : decode cX5_valueOf 18 = .ok (.if_icmp .ne 10, 3) := by decide +kernel
theorem dX5_valueOf_21 : decode cX5_valueOf 21 = .ok (.aload_n 0, 1) := by decide +kernel
theorem dX5_valueOf_22 : decode cX5_valueOf 22 = .ok (.invokevirtual 157, 3) := by decide +kernel
theorem dX5_valueOf_25 : decode cX5_valueOf 25 = .ok (.goto 7, 3) := by decide +kernel
theorem dX5_valueOf_28 : decode cX5_valueOf 28 = .ok (.aload_n 0, 1) := by decide +kernel
theorem dX5_valueOf_29 : decode cX5_valueOf 29 = .ok (.invokevirtual 161, 3) := by decide +kernel
theorem dX5_valueOf_32 : decode cX5_valueOf 32 = .ok (.ireturn, 1) := by decide +kernel
set_option maxRecDepth 20000 in
theorem ggX5_value_X5_in : GoodIn wsX5_value wsX5_in := goodIn_r _ [4] (by decide +kernel) (by decide +kernel)
set_option maxRecDepth 20000 in
theorem gX5_value_X5_in : GoodIn wsX5_value (va_wsS RX5 43 yX5_in wsX5_in) := goodIn_app (goodIn_of _ (by decide +kernel)) ggX5_value_X5_in
set_option maxRecDepth 20000 in
theorem ggX5_value_X5_valueOf : GoodIn wsX5_value wsX5_valueOf := goodIn_r _ [8, 9, 10, 11, 12, 3, 13, 14, 15, 16, 17, 18, 19, 20, 21, 31, 32, 33, 34, 35, 36, 37, 38] (by decide +kernel) (by decide +kernel)
set_option maxRecDepth 20000 in
theorem gX5_value_X5_valueOf : GoodIn wsX5_value (wsV RX5 164 RX5 yX5_valueOf wsX5_valueOf) := goodIn_app (goodIn_of _ (by decide +kernel)) ggX5_value_X5_valueOf
set_option maxRecDepth 20000 in
theorem ggX5_value_X5_tells : GoodIn wsX5_value wsX5_tells := goodIn_r _ [25, 26, 31, 32, 33, 34, 35, 36, 37, 38] (by decide +kernel) (by decide +kernel)
set_option maxRecDepth 20000 in
theorem gX5_value_X5_tells : GoodIn wsX5_value (wsV RX5 40 RX5 yX5_tells wsX5_tells) := goodIn_app (goodIn_of _ (by decide +kernel)) ggX5_value_X5_tells
set_option maxRecDepth 20000 in
theorem ggX5_value_X5_fails : GoodIn wsX5_value wsX5_fails := goodIn_r _ [30, 26, 31, 32, 33, 34, 35, 36, 37, 38] (by decide +kernel) (by decide +kernel)
set_option maxRecDepth 20000 in
theorem gX5_value_X5_fails : GoodIn wsX5_value (wsV RX5 36 RX5 yX5_fails wsX5_fails) := goodIn_app (goodIn_of _ (by decide +kernel)) ggX5_value_X5_fails
theorem dX5_value_0 : decode cX5_value 0 = .ok (.iload_n 1, 1) := by decide +kernel
theorem dX5_value_1 : decode cX5_value 1 = .ok (.iconst 0, 1) := by decide +kernel
theorem dX5_value_2 : decode cX5_value 2 = .ok (.bipush 11, 2) := by decide +kernel
theorem dX5_value_4 : decode cX5_value 4 = .ok (.invokestatic 43, 3) := by decide +kernel
theorem dX5_value_7 : decode cX5_value 7 = .ok (.ifCond .eq 15, 3) := by decide +kernel
theorem dX5_value_10 : decode cX5_value 10 = .ok (.aload_n 0, 1) := by decide +kernel
theorem dX5_value_11 : decode cX5_value 11 = .ok (.aload_n 0, 1) := by decide +kernel
theorem dX5_value_12 : decode cX5_value 12 = .ok (.iload_n 1, 1) := by decide +kernel
theorem dX5_value_13 : decode cX5_value 13 = .ok (.invokevirtual 164, 3) := by decide +kernel
theorem dX5_value_16 : decode cX5_value 16 = .ok (.invokevirtual 40, 3) := by decide +kernel
theorem dX5_value_19 : decode cX5_value 19 = .ok (.goto 8, 3) := by decide +kernel
theorem dX5_value_22 : decode cX5_value 22 = .ok (.aload_n 0, 1) := by decide +kernel
theorem dX5_value_23 : decode cX5_value 23 = .ok (.iconst 1, 1) := by decide +kernel
theorem dX5_value_24 : decode cX5_value 24 = .ok (.invokevirtual 36, 3) := by decide +kernel
theorem dX5_value_27 : decode cX5_value 27 = .ok (.ireturn, 1) := by decide +kernel
set_option maxRecDepth 20000 in
theorem ggX5_dispatch_X5_in : GoodIn wsX5_dispatch wsX5_in := goodIn_r _ [5] (by decide +kernel) (by decide +kernel)
set_option maxRecDepth 20000 in
theorem gX5_dispatch_X5_in : GoodIn wsX5_dispatch (va_wsS RX5 43 yX5_in wsX5_in) := goodIn_app (goodIn_of _ (by decide +kernel)) ggX5_dispatch_X5_in
set_option maxRecDepth 20000 in
theorem ggX5_dispatch_X5_fails : GoodIn wsX5_dispatch wsX5_fails := goodIn_r _ [9, 10, 15, 16, 17, 18, 19, 20, 21, 22] (by decide +kernel) (by decide +kernel)
set_option maxRecDepth 20000 in
theorem gX5_dispatch_X5_fails : GoodIn wsX5_dispatch (wsV RX5 36 RX5 yX5_fails wsX5_fails) := goodIn_app (goodIn_of _ (by decide +kernel)) ggX5_dispatch_X5_fails
set_option maxRecDepth 20000 in
theorem ggX5_dispatch_X5_tells : GoodIn wsX5_dispatch wsX5_tells := goodIn_r _ [14, 10, 15, 16, 17, 18, 19, 20, 21, 22] (by decide +kernel) (by decide +kernel)
set_option maxRecDepth 20000 in
theorem gX5_dispatch_X5_tells : GoodIn wsX5_dispatch (wsV RX5 40 RX5 yX5_tells wsX5_tells) := goodIn_app (goodIn_of _ (by decide +kernel)) ggX5_dispatch_X5_tells
theorem dX5_dispatch_0 : decode cX5_dispatch 0 = .ok (.iload_n 1, 1) := by decide +kernel
theorem dX5_dispatch_1 : decode cX5_dispatch 1 = .ok (.iconst 0, 1) := by decide +kernel
theorem dX5_dispatch_2 : decode cX5_dispatch 2 = .ok (.aload_n 0, 1) := by decide +kernel
theorem dX5_dispatch_3 : decode cX5_dispatch 3 = .ok (.getfield 7, 3) := by decide +kernel
theorem dX5_dispatch_6 : decode cX5_dispatch 6 = .ok (.bipush 10, 2) := by decide +kernel
theorem dX5_dispatch_8 : decode cX5_dispatch 8 = .ok (.iaload, 1) := by decide +kernel
theorem dX5_dispatch_9 : decode cX5_dispatch 9 = .ok (.iconst 1, 1) := by decide +kernel
theorem dX5_dispatch_10 : decode cX5_dispatch 10 = .ok (.isub, 1) := by decide +kernel
theorem dX5_dispatch_11 : decode cX5_dispatch 11 = .ok (.invokestatic 43, 3) := by decide +kernel
theorem dX5_dispatch_14 : decode cX5_dispatch 14 = .ok (.ifCond .ne 9, 3) := by decide +kernel
theorem dX5_dispatch_17 : decode cX5_dispatch 17 = .ok (.aload_n 0, 1) := by decide +kernel
theorem dX5_dispatch_18 : decode cX5_dispatch 18 = .ok (.iconst 1, 1) := by decide +kernel
theorem dX5_dispatch_19 : decode cX5_dispatch 19 = .ok (.invokevirtual 36, 3) := by decide +kernel
theorem dX5_dispatch_22 : decode cX5_dispatch 22 = .ok (.ireturn, 1) := by decide +kernel
theorem dX5_dispatch_23 : decode cX5_dispatch 23 = .ok (.iload_n 2, 1) := by decide +kernel
theorem dX5_dispatch_24 : decode cX5_dispatch 24 = .ok (.iconst 0, 1) := by decide +kernel
theorem dX5_dispatch_25 : decode cX5_dispatch 25 = .ok (.iconst 1, 1) := by decide +kernel
theorem dX5_dispatch_26 : decode cX5_dispatch 26 = .ok (.invokestatic 43, 3) := by decide +kernel
theorem dX5_dispatch_29 : decode cX5_dispatch 29 = .ok (.ifCond .eq 33, 3) := by decide +kernel
theorem dX5_dispatch_32 : decode cX5_dispatch 32 = .ok (.aload_n 0, 1) := by decide +kernel
theorem dX5_dispatch_33 : decode cX5_dispatch 33 = .ok (.aload_n 0, 1) := by decide +kernel
theorem dX5_dispatch_34 : decode cX5_dispatch 34 = .ok (.getfield 7, 3) := by decide +kernel
theorem dX5_dispatch_37 : decode cX5_dispatch 37 = .ok (.bipush 111, 2) := by decide +kernel
theorem dX5_dispatch_39 : decode cX5_dispatch 39 = .ok (.iconst 2, 1) := by decide +kernel
theorem dX5_dispatch_40 : decode cX5_dispatch 40 = .ok (.aload_n 0, 1) := by decide +kernel
theorem dX5_dispatch_41 : decode cX5_dispatch 41 = .ok (.getfield 7, 3) := by decide +kernel
theorem dX5_dispatch_44 : decode cX5_dispatch 44 = .ok (.bipush 10, 2) := by decide +kernel
theorem dX5_dispatch_46 : decode cX5_dispatch 46 = .ok (.iaload, 1) := by decide +kernel
theorem dX5_dispatch_47 : decode cX5_dispatch 47 = .ok (.iconst 1, 1) := by decide +kernel
theorem dX5_dispatch_48 : decode cX5_dispatch 48 = .ok (.isub, 1) := by decide +kernel
theorem dX5_dispatch_49 : decode cX5_dispatch 49 = .ok (.iload_n 1, 1) := by decide +kernel
theorem dX5_dispatch_50 : decode cX5_dispatch 50 = .ok (.isub, 1) := by decide +kernel
theorem dX5_dispatch_51 : decode cX5_dispatch 51 = .ok (.imul, 1) := by decide +kernel
theorem dX5_dispatch_52 : decode cX5_dispatch 52 = .ok (.iadd, 1) := by decide +kernel
theorem dX5_dispatch_53 : decode cX5_dispatch 53 = .ok (.iload_n 2, 1) := by decide +kernel
theorem dX5_dispatch_54 : decode cX5_dispatch 54 = .ok (.iadd, 1) := by decide +kernel
theorem dX5_dispatch_55 : decode cX5_dispatch 55 = .ok (.iaload, 1) := by decide +kernel
theorem dX5_dispatch_56 : decode cX5_dispatch 56 = .ok (.invokevirtual 40, 3) := by decide +kernel
theorem dX5_dispatch_59 : decode cX5_dispatch 59 = .ok (.goto 8, 3) := by decide +kernel
theorem dX5_dispatch_62 : decode cX5_dispatch 62 = .ok (.aload_n 0, 1) := by decide +kernel
theorem dX5_dispatch_63 : decode cX5_dispatch 63 = .ok (.iconst 2, 1) := by decide +kernel
theorem dX5_dispatch_64 : decode cX5_dispatch 64 = .ok (.invokevirtual 36, 3) := by decide +kernel
theorem dX5_dispatch_67 : decode cX5_dispatch 67 = .ok (.ireturn, 1) := by decide +kernel
set_option maxRecDepth 20000 in
theorem ggX5_whyOf_X5_of : GoodIn wsX5_whyOf wsX5_of := goodIn_r _ [5, 6, 43, 44, 45, 46, 47, 48, 49, 50] (by decide +kernel) (by decide +kernel)
set_option maxRecDepth 20000 in
theorem gX5_whyOf_X5_of : GoodIn wsX5_whyOf (wsV RX5 47 RX5 yX5_of wsX5_of) := goodIn_app (goodIn_of _ (by decide +kernel)) ggX5_whyOf_X5_of
set_option maxRecDepth 20000 in
theorem ggX5_whyOf_X5_holds : GoodIn wsX5_whyOf wsX5_holds := goodIn_r _ [10, 6, 1, 2, 3, 4, 5, 11, 12, 13, 14, 15, 16, 17, 18, 19, 20, 21, 22, 23, 24, 25, 26, 27, 28, 29, 30, 31, 32, 33, 34, 35, 36, 37, 38, 39, 40, 41, 42, 43, 44, 45, 46, 47, 48, 49, 50] (by decide +kernel) (by decide +kernel)
set_option maxRecDepth 20000 in
theorem gX5_whyOf_X5_holds : GoodIn wsX5_whyOf (wsV RX5 101 RX5 yX5_holds wsX5_holds) := goodIn_app (goodIn_of _ (by decide +kernel)) ggX5_whyOf_X5_holds
theorem dX5_whyOf_0 : decode cX5_whyOf 0 = .ok (.aload_n 0, 1) := by decide +kernel
theorem dX5_whyOf_1 : decode cX5_whyOf 1 = .ok (.iload_n 1, 1) := by decide +kernel
theorem dX5_whyOf_2 : decode cX5_whyOf 2 = .ok (.iconst 4, 1) := by decide +kernel
theorem dX5_whyOf_3 : decode cX5_whyOf 3 = .ok (.invokevirtual 47, 3) := by decide +kernel
theorem dX5_whyOf_6 : decode cX5_whyOf 6 = .ok (.istore_n 2, 1) := by decide +kernel
theorem dX5_whyOf_7 : decode cX5_whyOf 7 = .ok (.iload_n 2, 1) := by decide +kernel
theorem dX5_whyOf_8 : decode cX5_whyOf 8 = .ok (.ifCond .ne 7, 3) := by decide +kernel
theorem dX5_whyOf_11 : decode cX5_whyOf 11 = .ok (.iconst 0, 1) := by decide +kernel
theorem dX5_whyOf_12 : decode cX5_whyOf 12 = .ok (.goto 25, 3) := by decide +kernel
theorem dX5_whyOf_15 : decode cX5_whyOf 15 = .ok (.iload_n 2, 1) := by decide +kernel
theorem dX5_whyOf_16 : decode cX5_whyOf 16 = .ok (.iconst 2, 1) := by decide +kernel
theorem dX5_whyOf_17 : decode cX5_whyOf 17 = .ok (.if_icmp .ne 7, 3) := by decide +kernel
theorem dX5_whyOf_20 : decode cX5_whyOf 20 = .ok (.iconst 1, 1) := by decide +kernel
theorem dX5_whyOf_21 : decode cX5_whyOf 21 = .ok (.goto 16, 3) := by decide +kernel
theorem dX5_whyOf_24 : decode cX5_whyOf 24 = .ok (.aload_n 0, 1) := by decide +kernel
theorem dX5_whyOf_25 : decode cX5_whyOf 25 = .ok (.iload_n 1, 1) := by decide +kernel
theorem dX5_whyOf_26 : decode cX5_whyOf 26 = .ok (.aload_n 0, 1) := by decide +kernel
theorem dX5_whyOf_27 : decode cX5_whyOf 27 = .ok (.iload_n 1, 1) := by decide +kernel
theorem dX5_whyOf_28 : decode cX5_whyOf 28 = .ok (.iconst 5, 1) := by decide +kernel
theorem dX5_whyOf_29 : decode cX5_whyOf 29 = .ok (.invokevirtual 47, 3) := by decide +kernel
theorem dX5_whyOf_32 : decode cX5_whyOf 32 = .ok (.iconst 1, 1) := by decide +kernel
theorem dX5_whyOf_33 : decode cX5_whyOf 33 = .ok (.iadd, 1) := by decide +kernel
theorem dX5_whyOf_34 : decode cX5_whyOf 34 = .ok (.invokevirtual 101, 3) := by decide +kernel
theorem dX5_whyOf_37 : decode cX5_whyOf 37 = .ok (.ireturn, 1) := by decide +kernel
set_option maxRecDepth 20000 in
theorem ggX5_why_X5_isTrain : GoodIn wsX5_why wsX5_isTrain := goodIn_r _ [5, 6, 7, 8, 4, 9, 63, 64, 65, 66, 67, 68, 69, 70] (by decide +kernel) (by decide +kernel)
set_option maxRecDepth 20000 in
theorem gX5_why_X5_isTrain : GoodIn wsX5_why (wsV RX5 81 RX5 yX5_isTrain wsX5_isTrain) := goodIn_app (goodIn_of _ (by decide +kernel)) ggX5_why_X5_isTrain
set_option maxRecDepth 20000 in
theorem ggX5_why_X5_whyOf : GoodIn wsX5_why wsX5_whyOf := goodIn_r _ [13, 14, 15, 16, 4, 17, 6, 18, 19, 20, 21, 22, 23, 24, 25, 26, 27, 28, 29, 30, 31, 32, 33, 34, 35, 36, 37, 38, 39, 40, 41, 42, 43, 44, 45, 46, 47, 48, 49, 50, 51, 52, 53, 63, 64, 65, 66, 67, 68, 69, 70] (by decide +kernel) (by decide +kernel)
set_option maxRecDepth 20000 in
theorem gX5_why_X5_whyOf : GoodIn wsX5_why (wsV RX5 167 RX5 yX5_whyOf wsX5_whyOf) := goodIn_app (goodIn_of _ (by decide +kernel)) ggX5_why_X5_whyOf
set_option maxRecDepth 20000 in
theorem ggX5_why_X5_tells : GoodIn wsX5_why wsX5_tells := goodIn_r _ [57, 58, 63, 64, 65, 66, 67, 68, 69, 70] (by decide +kernel) (by decide +kernel)
set_option maxRecDepth 20000 in
theorem gX5_why_X5_tells : GoodIn wsX5_why (wsV RX5 40 RX5 yX5_tells wsX5_tells) := goodIn_app (goodIn_of _ (by decide +kernel)) ggX5_why_X5_tells
set_option maxRecDepth 20000 in
theorem ggX5_why_X5_fails : GoodIn wsX5_why wsX5_fails := goodIn_r _ [62, 58, 63, 64, 65, 66, 67, 68, 69, 70] (by decide +kernel) (by decide +kernel)
set_option maxRecDepth 20000 in
theorem gX5_why_X5_fails : GoodIn wsX5_why (wsV RX5 36 RX5 yX5_fails wsX5_fails) := goodIn_app (goodIn_of _ (by decide +kernel)) ggX5_why_X5_fails
theorem dX5_why_0 : decode cX5_why 0 = .ok (.aload_n 0, 1) := by decide +kernel
theorem dX5_why_1 : decode cX5_why 1 = .ok (.iload_n 1, 1) := by decide +kernel
theorem dX5_why_2 : decode cX5_why 2 = .ok (.invokevirtual 81, 3) := by decide +kernel
theorem dX5_why_5 : decode cX5_why 5 = .ok (.ifCond .eq 15, 3) := by decide +kernel
theorem dX5_why_8 : decode cX5_why 8 = .ok (.aload_n 0, 1) := by decide +kernel
theorem dX5_why_9 : decode cX5_why 9 = .ok (.aload_n 0, 1) := by decide +kernel
theorem dX5_why_10 : decode cX5_why 10 = .ok (.iload_n 1, 1) := by decide +kernel
theorem dX5_why_11 : decode cX5_why 11 = .ok (.invokevirtual 167, 3) := by decide +kernel
theorem dX5_why_14 : decode cX5_why 14 = .ok (.invokevirtual 40, 3) := by decide +kernel
theorem dX5_why_17 : decode cX5_why 17 = .ok (.goto 8, 3) := by decide +kernel
theorem dX5_why_20 : decode cX5_why 20 = .ok (.aload_n 0, 1) := by decide +kernel
theorem dX5_why_21 : decode cX5_why 21 = .ok (.iconst 1, 1) := by decide +kernel
theorem dX5_why_22 : decode cX5_why 22 = .ok (.invokevirtual 36, 3) := by decide +kernel
theorem dX5_why_25 : decode cX5_why 25 = .ok (.ireturn, 1) := by decide +kernel
set_option maxRecDepth 20000 in
theorem ggX5_ticksToStation_X5_isTrain : GoodIn wsX5_ticksToStation wsX5_isTrain := goodIn_r _ [5, 6, 7, 8, 4, 9, 123, 124, 125, 126, 127, 128, 129, 130] (by decide +kernel) (by decide +kernel)
set_option maxRecDepth 20000 in
theorem gX5_ticksToStation_X5_isTrain : GoodIn wsX5_ticksToStation (wsV RX5 81 RX5 yX5_isTrain wsX5_isTrain) := goodIn_app (goodIn_of _ (by decide +kernel)) ggX5_ticksToStation_X5_isTrain
set_option maxRecDepth 20000 in
theorem ggX5_ticksToStation_X5_fails : GoodIn wsX5_ticksToStation wsX5_fails := goodIn_r _ [13, 14, 123, 124, 125, 126, 127, 128, 129, 130] (by decide +kernel) (by decide +kernel)
set_option maxRecDepth 20000 in
theorem gX5_ticksToStation_X5_fails : GoodIn wsX5_ticksToStation (wsV RX5 36 RX5 yX5_fails wsX5_fails) := goodIn_app (goodIn_of _ (by decide +kernel)) ggX5_ticksToStation_X5_fails
set_option maxRecDepth 20000 in
theorem ggX5_ticksToStation_X5_laysAside : GoodIn wsX5_ticksToStation wsX5_laysAside := goodIn_r _ [18, 19, 6, 123, 124, 125, 126, 127, 128, 129, 130] (by decide +kernel) (by decide +kernel)
set_option maxRecDepth 20000 in
theorem gX5_ticksToStation_X5_laysAside : GoodIn wsX5_ticksToStation (wsV RX5 170 RX5 yX5_laysAside wsX5_laysAside) := goodIn_app (goodIn_of _ (by decide +kernel)) ggX5_ticksToStation_X5_laysAside
set_option maxRecDepth 20000 in
theorem ggX5_ticksToStation_X5_of : GoodIn wsX5_ticksToStation wsX5_of := goodIn_r _ [23, 6, 123, 124, 125, 126, 127, 128, 129, 130] (by decide +kernel) (by decide +kernel)
set_option maxRecDepth 20000 in
theorem gX5_ticksToStation_X5_of : GoodIn wsX5_ticksToStation (wsV RX5 47 RX5 yX5_of wsX5_of) := goodIn_app (goodIn_of _ (by decide +kernel)) ggX5_ticksToStation_X5_of
set_option maxRecDepth 20000 in
theorem ggX5_ticksToStation_X5_tick : GoodIn wsX5_ticksToStation wsX5_tick := goodIn_r _ [27, 6, 20, 21, 22, 4, 23, 28, 29, 30, 31, 32, 33, 34, 35, 36, 37, 38, 39, 40, 41, 42, 43, 44, 45, 46, 47, 48, 49, 50, 51, 52, 53, 54, 55, 56, 57, 58, 59, 60, 61, 62, 63, 64, 65, 66, 67, 68, 69, 70, 71, 72, 73, 74, 75, 76, 77, 78, 79, 80, 81, 82, 83, 84, 85, 86, 87, 88, 89, 90, 91, 92, 93, 94, 95, 96, 97, 98, 99, 100, 101, 102, 103, 104, 105, 106, 107, 108, 109, 110, 111, 112, 113, 114, 123, 124, 125, 126, 127, 128, 129, 130] (by decide +kernel) (by decide +kernel)
set_option maxRecDepth 20000 in
theorem gX5_ticksToStation_X5_tick : GoodIn wsX5_ticksToStation (wsV RX5 139 RX5 yX5_tick wsX5_tick) := goodIn_app (goodIn_of _ (by decide +kernel)) ggX5_ticksToStation_X5_tick
set_option maxRecDepth 20000 in
theorem ggX5_ticksToStation_X5_takesBack : GoodIn wsX5_ticksToStation wsX5_takesBack := goodIn_r _ [118, 6, 19, 123, 124, 125, 126, 127, 128, 129, 130] (by decide +kernel) (by decide +kernel)
set_option maxRecDepth 20000 in
theorem gX5_ticksToStation_X5_takesBack : GoodIn wsX5_ticksToStation (wsV RX5 173 RX5 yX5_takesBack wsX5_takesBack) := goodIn_app (goodIn_of _ (by decide +kernel)) ggX5_ticksToStation_X5_takesBack
set_option maxRecDepth 20000 in
theorem ggX5_ticksToStation_X5_tells : GoodIn wsX5_ticksToStation wsX5_tells := goodIn_r _ [122, 14, 123, 124, 125, 126, 127, 128, 129, 130] (by decide +kernel) (by decide +kernel)
set_option maxRecDepth 20000 in
theorem gX5_ticksToStation_X5_tells : GoodIn wsX5_ticksToStation (wsV RX5 40 RX5 yX5_tells wsX5_tells) := goodIn_app (goodIn_of _ (by decide +kernel)) ggX5_ticksToStation_X5_tells
theorem dX5_ticksToStation_0 : decode cX5_ticksToStation 0 = .ok (.aload_n 0, 1) := by decide +kernel
theorem dX5_ticksToStation_1 : decode cX5_ticksToStation 1 = .ok (.iload_n 1, 1) := by decide +kernel
theorem dX5_ticksToStation_2 : decode cX5_ticksToStation 2 = .ok (.invokevirtual 81, 3) := by decide +kernel
theorem dX5_ticksToStation_5 : decode cX5_ticksToStation 5 = .ok (.ifCond .ne 9, 3) := by decide +kernel
theorem dX5_ticksToStation_8 : decode cX5_ticksToStation 8 = .ok (.aload_n 0, 1) := by decide +kernel
theorem dX5_ticksToStation_9 : decode cX5_ticksToStation 9 = .ok (.iconst 1, 1) := by decide +kernel
theorem dX5_ticksToStation_10 : decode cX5_ticksToStation 10 = .ok (.invokevirtual 36, 3) := by decide +kernel
theorem dX5_ticksToStation_13 : decode cX5_ticksToStation 13 = .ok (.ireturn, 1) := by decide +kernel
theorem dX5_ticksToStation_14 : decode cX5_ticksToStation 14 = .ok (.aload_n 0, 1) := by decide +kernel
theorem dX5_ticksToStation_15 : decode cX5_ticksToStation 15 = .ok (.invokevirtual 170, 3) := by decide +kernel
theorem dX5_ticksToStation_18 : decode cX5_ticksToStation 18 = .ok (.aload_n 0, 1) := by decide +kernel
theorem dX5_ticksToStation_19 : decode cX5_ticksToStation 19 = .ok (.iload_n 1, 1) := by decide +kernel
theorem dX5_ticksToStation_20 : decode cX5_ticksToStation 20 = .ok (.bipush 7, 2) := by decide +kernel
theorem dX5_ticksToStation_22 : decode cX5_ticksToStation 22 = .ok (.invokevirtual 47, 3) := by decide +kernel
theorem dX5_ticksToStation_25 : decode cX5_ticksToStation 25 = .ok (.istore_n 2, 1) := by decide +kernel
theorem dX5_ticksToStation_26 : decode cX5_ticksToStation 26 = .ok (.iconst 0, 1) := by decide +kernel
theorem dX5_ticksToStation_27 : decode cX5_ticksToStation 27 = .ok (.istore_n 3, 1) := by decide +kernel
theorem dX5_ticksToStation_28 : decode cX5_ticksToStation 28 = .ok (.iload_n 3, 1) := by decide +kernel
theorem dX5_ticksToStation_29 : decode cX5_ticksToStation 29 = .ok (.sipush 2000, 3) := by decide +kernel
theorem dX5_ticksToStation_32 : decode cX5_ticksToStation 32 = .ok (.if_icmp .ge 24, 3) := by decide +kernel
theorem dX5_ticksToStation_35 : decode cX5_ticksToStation 35 = .ok (.aload_n 0, 1) := by decide +kernel
theorem dX5_ticksToStation_36 : decode cX5_ticksToStation 36 = .ok (.iload_n 1, 1) := by decide +kernel
theorem dX5_ticksToStation_37 : decode cX5_ticksToStation 37 = .ok (.bipush 7, 2) := by decide +kernel
theorem dX5_ticksToStation_39 : decode cX5_ticksToStation 39 = .ok (.invokevirtual 47, 3) := by decide +kernel
theorem dX5_ticksToStation_42 : decode cX5_ticksToStation 42 = .ok (.iload_n 2, 1) := by decide +kernel
theorem dX5_ticksToStation_43 : decode cX5_ticksToStation 43 = .ok (.if_icmp .ne 13, 3) := by decide +kernel
theorem dX5_ticksToStation_46 : decode cX5_ticksToStation 46 = .ok (.aload_n 0, 1) := by decide +kernel
theorem dX5_ticksToStation_47 : decode cX5_ticksToStation 47 = .ok (.invokevirtual 139, 3) := by decide +kernel
theorem dX5_ticksToStation_50 : decode cX5_ticksToStation 50 = .ok (.iinc 3 1, 3) := by decide +kernel
theorem dX5_ticksToStation_53 : decode cX5_ticksToStation 53 = .ok (.goto (-25), 3) := by decide +kernel
theorem dX5_ticksToStation_56 : decode cX5_ticksToStation 56 = .ok (.aload_n 0, 1) := by decide +kernel
theorem dX5_ticksToStation_57 : decode cX5_ticksToStation 57 = .ok (.iload_n 1, 1) := by decide +kernel
theorem dX5_ticksToStation_58 : decode cX5_ticksToStation 58 = .ok (.bipush 7, 2) := by decide +kernel
theorem dX5_ticksToStation_60 : decode cX5_ticksToStation 60 = .ok (.invokevirtual 47, 3) := by decide +kernel
theorem dX5_ticksToStation_63 : decode cX5_ticksToStation 63 = .ok (.iload_n 2, 1) := by decide +kernel
theorem dX5_ticksToStation_64 : decode cX5_ticksToStation 64 = .ok (.if_icmp .le 7, 3) := by decide +kernel
theorem dX5_ticksToStation_67 : decode cX5_ticksToStation 67 = .ok (.iconst 1, 1) := by decide +kernel
theorem dX5_ticksToStation_68 : decode cX5_ticksToStation 68 = .ok (.goto 4, 3) := by decide +kernel
theorem dX5_ticksToStation_71 : decode cX5_ticksToStation 71 = .ok (.iconst 0, 1) := by decide +kernel
theorem dX5_ticksToStation_72 : decode cX5_ticksToStation 72 = .ok (.istore 4, 2) := by decide +kernel
theorem dX5_ticksToStation_74 : decode cX5_ticksToStation 74 = .ok (.aload_n 0, 1) := by decide +kernel
theorem dX5_ticksToStation_75 : decode cX5_ticksToStation 75 = .ok (.invokevirtual 173, 3) := by decide +kernel
theorem dX5_ticksToStation_78 : decode cX5_ticksToStation 78 = .ok (.aload_n 0, 1) := by decide +kernel
theorem dX5_ticksToStation_79 : decode cX5_ticksToStation 79 = .ok (.iload 4, 2) := by decide +kernel
theorem dX5_ticksToStation_81 : decode cX5_ticksToStation 81 = .ok (.ifCond .eq 7, 3) := by decide +kernel
theorem dX5_ticksToStation_84 : decode cX5_ticksToStation 84 = .ok (.iload_n 3, 1) := by decide +kernel
theorem dX5_ticksToStation_85 : decode cX5_ticksToStation 85 = .ok (.goto 4, 3) := by decide +kernel
theorem dX5_ticksToStation_88 : decode cX5_ticksToStation 88 = .ok (.iconst (-1), 1) := by decide +kernel
theorem dX5_ticksToStation_89 : decode cX5_ticksToStation 89 = .ok (.invokevirtual 40, 3) := by decide +kernel
theorem dX5_ticksToStation_92 : decode cX5_ticksToStation 92 = .ok (.ireturn, 1) := by decide +kernel
set_option maxRecDepth 20000 in
theorem ggX5_toValley_X5_laysAside : GoodIn wsX5_toValley wsX5_laysAside := goodIn_r _ [5, 6, 7, 111, 112, 113, 114, 115, 116, 117, 118] (by decide +kernel) (by decide +kernel)
set_option maxRecDepth 20000 in
theorem gX5_toValley_X5_laysAside : GoodIn wsX5_toValley (wsV RX5 170 RX5 yX5_laysAside wsX5_laysAside) := goodIn_app (goodIn_of _ (by decide +kernel)) ggX5_toValley_X5_laysAside
set_option maxRecDepth 20000 in
theorem ggX5_toValley_X5_lyingOnes : GoodIn wsX5_toValley wsX5_lyingOnes := goodIn_r _ [11, 7, 12, 13, 14, 4, 15, 111, 112, 113, 114, 115, 116, 117, 118] (by decide +kernel) (by decide +kernel)
set_option maxRecDepth 20000 in
theorem gX5_toValley_X5_lyingOnes : GoodIn wsX5_toValley (wsV RX5 157 RX5 yX5_lyingOnes wsX5_lyingOnes) := goodIn_app (goodIn_of _ (by decide +kernel)) ggX5_toValley_X5_lyingOnes
set_option maxRecDepth 20000 in
theorem ggX5_toValley_X5_tick : GoodIn wsX5_toValley wsX5_tick := goodIn_r _ [19, 7, 12, 13, 14, 4, 15, 20, 21, 22, 23, 24, 25, 26, 27, 28, 29, 30, 31, 32, 33, 34, 35, 36, 37, 38, 39, 40, 41, 42, 43, 44, 45, 46, 47, 48, 49, 50, 51, 52, 53, 54, 55, 56, 57, 58, 59, 60, 61, 62, 63, 64, 65, 66, 67, 68, 69, 70, 71, 72, 73, 74, 75, 76, 77, 78, 79, 80, 81, 82, 83, 84, 85, 86, 87, 88, 89, 90, 91, 92, 93, 94, 95, 96, 97, 98, 99, 100, 101, 102, 103, 104, 105, 106, 111, 112, 113, 114, 115, 116, 117, 118] (by decide +kernel) (by decide +kernel)
set_option maxRecDepth 20000 in
theorem gX5_toValley_X5_tick : GoodIn wsX5_toValley (wsV RX5 139 RX5 yX5_tick wsX5_tick) := goodIn_app (goodIn_of _ (by decide +kernel)) ggX5_toValley_X5_tick
set_option maxRecDepth 20000 in
theorem ggX5_toValley_X5_takesBack : GoodIn wsX5_toValley wsX5_takesBack := goodIn_r _ [110, 7, 6, 111, 112, 113, 114, 115, 116, 117, 118] (by decide +kernel) (by decide +kernel)
set_option maxRecDepth 20000 in
theorem gX5_toValley_X5_takesBack : GoodIn wsX5_toValley (wsV RX5 173 RX5 yX5_takesBack wsX5_takesBack) := goodIn_app (goodIn_of _ (by decide +kernel)) ggX5_toValley_X5_takesBack
theorem dX5_toValley_0 : decode cX5_toValley 0 = .ok (.aload_n 0, 1) := by decide +kernel
theorem dX5_toValley_1 : decode cX5_toValley 1 = .ok (.invokevirtual 170, 3) := by decide +kernel
theorem dX5_toValley_4 : decode cX5_toValley 4 = .ok (.aload_n 0, 1) := by decide +kernel
theorem dX5_toValley_5 : decode cX5_toValley 5 = .ok (.invokevirtual 157, 3) := by decide +kernel
theorem dX5_toValley_8 : decode cX5_toValley 8 = .ok (.istore_n 2, 1) := by decide +kernel
theorem dX5_toValley_9 : decode cX5_toValley 9 = .ok (.iconst 0, 1) := by decide +kernel
theorem dX5_toValley_10 : decode cX5_toValley 10 = .ok (.istore_n 3, 1) := by decide +kernel
theorem dX5_toValley_11 : decode cX5_toValley 11 = .ok (.iload_n 3, 1) := by decide +kernel
theorem dX5_toValley_12 : decode cX5_toValley 12 = .ok (.iload_n 1, 1) := by decide +kernel
theorem dX5_toValley_13 : decode cX5_toValley 13 = .ok (.if_icmp .ge 21, 3) := by decide +kernel
theorem dX5_toValley_16 : decode cX5_toValley 16 = .ok (.aload_n 0, 1) := by decide +kernel
theorem dX5_toValley_17 : decode cX5_toValley 17 = .ok (.invokevirtual 157, 3) := by decide +kernel
theorem dX5_toValley_20 : decode cX5_toValley 20 = .ok (.iload_n 2, 1) := by decide +kernel
theorem dX5_toValley_21 : decode cX5_toValley 21 = .ok (.if_icmp .ne 13, 3) := by decide +kernel
theorem dX5_toValley_24 : decode cX5_toValley 24 = .ok (.aload_n 0, 1) := by decide +kernel
theorem dX5_toValley_25 : decode cX5_toValley 25 = .ok (.invokevirtual 139, 3) := by decide +kernel
theorem dX5_toValley_28 : decode cX5_toValley 28 = .ok (.iinc 3 1, 3) := by decide +kernel
theorem dX5_toValley_31 : decode cX5_toValley 31 = .ok (.goto (-20), 3) := by decide +kernel
theorem dX5_toValley_34 : decode cX5_toValley 34 = .ok (.aload_n 0, 1) := by decide +kernel
theorem dX5_toValley_35 : decode cX5_toValley 35 = .ok (.invokevirtual 157, 3) := by decide +kernel
theorem dX5_toValley_38 : decode cX5_toValley 38 = .ok (.iload_n 2, 1) := by decide +kernel
theorem dX5_toValley_39 : decode cX5_toValley 39 = .ok (.if_icmp .le 7, 3) := by decide +kernel
theorem dX5_toValley_42 : decode cX5_toValley 42 = .ok (.iconst 1, 1) := by decide +kernel
theorem dX5_toValley_43 : decode cX5_toValley 43 = .ok (.goto 4, 3) := by decide +kernel
theorem dX5_toValley_46 : decode cX5_toValley 46 = .ok (.iconst 0, 1) := by decide +kernel
theorem dX5_toValley_47 : decode cX5_toValley 47 = .ok (.istore 4, 2) := by decide +kernel
theorem dX5_toValley_49 : decode cX5_toValley 49 = .ok (.aload_n 0, 1) := by decide +kernel
theorem dX5_toValley_50 : decode cX5_toValley 50 = .ok (.invokevirtual 173, 3) := by decide +kernel
theorem dX5_toValley_53 : decode cX5_toValley 53 = .ok (.iload 4, 2) := by decide +kernel
theorem dX5_toValley_55 : decode cX5_toValley 55 = .ok (.ifCond .eq 7, 3) := by decide +kernel
theorem dX5_toValley_58 : decode cX5_toValley 58 = .ok (.iload_n 3, 1) := by decide +kernel
theorem dX5_toValley_59 : decode cX5_toValley 59 = .ok (.goto 4, 3) := by decide +kernel
theorem dX5_toValley_62 : decode cX5_toValley 62 = .ok (.iconst (-1), 1) := by decide +kernel
theorem dX5_toValley_63 : decode cX5_toValley 63 = .ok (.ireturn, 1) := by decide +kernel
set_option maxRecDepth 20000 in
theorem ggX5_ticksToValley_X5_toValley : GoodIn wsX5_ticksToValley wsX5_toValley := goodIn_r _ [5, 6, 7, 8, 4, 9, 10, 11, 12, 13, 14, 15, 16, 17, 18, 19, 20, 21, 22, 23, 24, 25, 26, 27, 28, 29, 30, 31, 32, 33, 34, 35, 36, 37, 38, 39, 40, 41, 42, 43, 44, 45, 46, 47, 48, 49, 50, 51, 52, 53, 54, 55, 56, 57, 58, 59, 60, 61, 62, 63, 64, 65, 66, 67, 68, 69, 70, 71, 72, 73, 74, 75, 76, 77, 78, 79, 80, 81, 82, 83, 84, 85, 86, 87, 88, 89, 90, 91, 92, 93, 94, 95, 96, 97, 98, 99, 100, 101, 102, 103, 104, 105, 106, 107, 108, 109, 110, 111, 112, 113, 114, 120, 121, 122, 123, 124, 125, 126, 127] (by decide +kernel) (by decide +kernel)
set_option maxRecDepth 20000 in
theorem gX5_ticksToValley_X5_toValley : GoodIn wsX5_ticksToValley (wsV RX5 176 RX5 yX5_toValley wsX5_toValley) := goodIn_app (goodIn_of _ (by decide +kernel)) ggX5_ticksToValley_X5_toValley
set_option maxRecDepth 20000 in
theorem ggX5_ticksToValley_X5_tells : GoodIn wsX5_ticksToValley wsX5_tells := goodIn_r _ [118, 119, 120, 121, 122, 123, 124, 125, 126, 127] (by decide +kernel) (by decide +kernel)
set_option maxRecDepth 20000 in
theorem gX5_ticksToValley_X5_tells : GoodIn wsX5_ticksToValley (wsV RX5 40 RX5 yX5_tells wsX5_tells) := goodIn_app (goodIn_of _ (by decide +kernel)) ggX5_ticksToValley_X5_tells
theorem dX5_ticksToValley_0 : decode cX5_ticksToValley 0 = .ok (.aload_n 0, 1) := by decide +kernel
theorem dX5_ticksToValley_1 : decode cX5_ticksToValley 1 = .ok (.aload_n 0, 1) := by decide +kernel
theorem dX5_ticksToValley_2 : decode cX5_ticksToValley 2 = .ok (.sipush 2000, 3) := by decide +kernel
theorem dX5_ticksToValley_5 : decode cX5_ticksToValley 5 = .ok (.invokevirtual 176, 3) := by decide +kernel
theorem dX5_ticksToValley_8 : decode cX5_ticksToValley 8 = .ok (.invokevirtual 40, 3) := by decide +kernel
theorem dX5_ticksToValley_11 : decode cX5_ticksToValley 11 = .ok (.ireturn, 1) := by decide +kernel
set_option maxRecDepth 20000 in
theorem ggX5_dispatchesWith_X5_in : GoodIn wsX5_dispatchesWith wsX5_in := goodIn_r _ [5] (by decide +kernel) (by decide +kernel)
set_option maxRecDepth 20000 in
theorem gX5_dispatchesWith_X5_in : GoodIn wsX5_dispatchesWith (va_wsS RX5 43 yX5_in wsX5_in) := goodIn_app (goodIn_of _ (by decide +kernel)) ggX5_dispatchesWith_X5_in
set_option maxRecDepth 20000 in
theorem ggX5_dispatchesWith_X5_fails : GoodIn wsX5_dispatchesWith wsX5_fails := goodIn_r _ [9, 10, 119, 120, 121, 122, 123, 124, 125, 126] (by decide +kernel) (by decide +kernel)
set_option maxRecDepth 20000 in
theorem gX5_dispatchesWith_X5_fails : GoodIn wsX5_dispatchesWith (wsV RX5 36 RX5 yX5_fails wsX5_fails) := goodIn_app (goodIn_of _ (by decide +kernel)) ggX5_dispatchesWith_X5_fails
set_option maxRecDepth 20000 in
theorem ggX5_dispatchesWith_X5_laysAside : GoodIn wsX5_dispatchesWith wsX5_laysAside := goodIn_r _ [14, 15, 1, 119, 120, 121, 122, 123, 124, 125, 126] (by decide +kernel) (by decide +kernel)
set_option maxRecDepth 20000 in
theorem gX5_dispatchesWith_X5_laysAside : GoodIn wsX5_dispatchesWith (wsV RX5 170 RX5 yX5_laysAside wsX5_laysAside) := goodIn_app (goodIn_of _ (by decide +kernel)) ggX5_dispatchesWith_X5_laysAside
set_option maxRecDepth 20000 in
theorem ggX5_dispatchesWith_X5_tick : GoodIn wsX5_dispatchesWith wsX5_tick := goodIn_r _ [19, 1, 20, 21, 22, 4, 23, 24, 25, 26, 27, 28, 29, 30, 31, 32, 33, 34, 35, 36, 37, 38, 39, 40, 41, 42, 43, 44, 45, 46, 47, 48, 49, 50, 51, 52, 53, 54, 55, 56, 57, 58, 59, 60, 61, 62, 63, 64, 65, 66, 67, 68, 69, 70, 71, 72, 73, 74, 75, 76, 77, 78, 79, 80, 81, 82, 83, 84, 85, 86, 87, 88, 89, 90, 91, 92, 93, 94, 95, 96, 97, 98, 99, 100, 101, 102, 103, 104, 105, 106, 107, 108, 109, 110, 119, 120, 121, 122, 123, 124, 125, 126] (by decide +kernel) (by decide +kernel)
set_option maxRecDepth 20000 in
theorem gX5_dispatchesWith_X5_tick : GoodIn wsX5_dispatchesWith (wsV RX5 139 RX5 yX5_tick wsX5_tick) := goodIn_app (goodIn_of _ (by decide +kernel)) ggX5_dispatchesWith_X5_tick
set_option maxRecDepth 20000 in
theorem ggX5_dispatchesWith_X5_takesBack : GoodIn wsX5_dispatchesWith wsX5_takesBack := goodIn_r _ [114, 1, 15, 119, 120, 121, 122, 123, 124, 125, 126] (by decide +kernel) (by decide +kernel)
set_option maxRecDepth 20000 in
theorem gX5_dispatchesWith_X5_takesBack : GoodIn wsX5_dispatchesWith (wsV RX5 173 RX5 yX5_takesBack wsX5_takesBack) := goodIn_app (goodIn_of _ (by decide +kernel)) ggX5_dispatchesWith_X5_takesBack
set_option maxRecDepth 20000 in
theorem ggX5_dispatchesWith_X5_tells : GoodIn wsX5_dispatchesWith wsX5_tells := goodIn_r _ [118, 10, 119, 120, 121, 122, 123, 124, 125, 126] (by decide +kernel) (by decide +kernel)
set_option maxRecDepth 20000 in
theorem gX5_dispatchesWith_X5_tells : GoodIn wsX5_dispatchesWith (wsV RX5 40 RX5 yX5_tells wsX5_tells) := goodIn_app (goodIn_of _ (by decide +kernel)) ggX5_dispatchesWith_X5_tells
theorem dX5_dispatchesWith_0 : decode cX5_dispatchesWith 0 = .ok (.iload_n 1, 1) := by decide +kernel
theorem dX5_dispatchesWith_1 : decode cX5_dispatchesWith 1 = .ok (.iconst 0, 1) := by decide +kernel
theorem dX5_dispatchesWith_2 : decode cX5_dispatchesWith 2 = .ok (.sipush 500, 3) := by decide +kernel
theorem dX5_dispatchesWith_5 : decode cX5_dispatchesWith 5 = .ok (.invokestatic 43, 3) := by decide +kernel
theorem dX5_dispatchesWith_8 : decode cX5_dispatchesWith 8 = .ok (.ifCond .ne 9, 3) := by decide +kernel
theorem dX5_dispatchesWith_11 : decode cX5_dispatchesWith 11 = .ok (.aload_n 0, 1) := by decide +kernel
theorem dX5_dispatchesWith_12 : decode cX5_dispatchesWith 12 = .ok (.iconst 1, 1) := by decide +kernel
theorem dX5_dispatchesWith_13 : decode cX5_dispatchesWith 13 = .ok (.invokevirtual 36, 3) := by decide +kernel
theorem dX5_dispatchesWith_16 : decode cX5_dispatchesWith 16 = .ok (.ireturn, 1) := by decide +kernel
theorem dX5_dispatchesWith_17 : decode cX5_dispatchesWith 17 = .ok (.aload_n 0, 1) := by decide +kernel
theorem dX5_dispatchesWith_18 : decode cX5_dispatchesWith 18 = .ok (.invokevirtual 170, 3) := by decide +kernel
theorem dX5_dispatchesWith_21 : decode cX5_dispatchesWith 21 = .ok (.aload_n 0, 1) := by decide +kernel
theorem dX5_dispatchesWith_22 : decode cX5_dispatchesWith 22 = .ok (.getfield 7, 3) := by decide +kernel
theorem dX5_dispatchesWith_25 : decode cX5_dispatchesWith 25 = .ok (.bipush 8, 2) := by decide +kernel
theorem dX5_dispatchesWith_27 : decode cX5_dispatchesWith 27 = .ok (.iaload, 1) := by decide +kernel
theorem dX5_dispatchesWith_28 : decode cX5_dispatchesWith 28 = .ok (.istore_n 2, 1) := by decide +kernel
theorem dX5_dispatchesWith_29 : decode cX5_dispatchesWith 29 = .ok (.aload_n 0, 1) := by decide +kernel
theorem dX5_dispatchesWith_30 : decode cX5_dispatchesWith 30 = .ok (.getfield 7, 3) := by decide +kernel
theorem dX5_dispatchesWith_33 : decode cX5_dispatchesWith 33 = .ok (.bipush 6, 2) := by decide +kernel
theorem dX5_dispatchesWith_35 : decode cX5_dispatchesWith 35 = .ok (.iload_n 1, 1) := by decide +kernel
theorem dX5_dispatchesWith_36 : decode cX5_dispatchesWith 36 = .ok (.iastore, 1) := by decide +kernel
theorem dX5_dispatchesWith_37 : decode cX5_dispatchesWith 37 = .ok (.iconst 0, 1) := by decide +kernel
theorem dX5_dispatchesWith_38 : decode cX5_dispatchesWith 38 = .ok (.istore_n 3, 1) := by decide +kernel
theorem dX5_dispatchesWith_39 : decode cX5_dispatchesWith 39 = .ok (.iload_n 3, 1) := by decide +kernel
theorem dX5_dispatchesWith_40 : decode cX5_dispatchesWith 40 = .ok (.sipush 1000, 3) := by decide +kernel
theorem dX5_dispatchesWith_43 : decode cX5_dispatchesWith 43 = .ok (.if_icmp .ge 13, 3) := by decide +kernel
theorem dX5_dispatchesWith_46 : decode cX5_dispatchesWith 46 = .ok (.aload_n 0, 1) := by decide +kernel
theorem dX5_dispatchesWith_47 : decode cX5_dispatchesWith 47 = .ok (.invokevirtual 139, 3) := by decide +kernel
theorem dX5_dispatchesWith_50 : decode cX5_dispatchesWith 50 = .ok (.iinc 3 1, 3) := by decide +kernel
theorem dX5_dispatchesWith_53 : decode cX5_dispatchesWith 53 = .ok (.goto (-14), 3) := by decide +kernel
theorem dX5_dispatchesWith_56 : decode cX5_dispatchesWith 56 = .ok (.aload_n 0, 1) := by decide +kernel
theorem dX5_dispatchesWith_57 : decode cX5_dispatchesWith 57 = .ok (.getfield 7, 3) := by decide +kernel
theorem dX5_dispatchesWith_60 : decode cX5_dispatchesWith 60 = .ok (.bipush 8, 2) := by decide +kernel
theorem dX5_dispatchesWith_62 : decode cX5_dispatchesWith 62 = .ok (.iaload, 1) := by decide +kernel
theorem dX5_dispatchesWith_63 : decode cX5_dispatchesWith 63 = .ok (.iload_n 2, 1) := by decide +kernel
theorem dX5_dispatchesWith_64 : decode cX5_dispatchesWith 64 = .ok (.isub, 1) := by decide +kernel
theorem dX5_dispatchesWith_65 : decode cX5_dispatchesWith 65 = .ok (.istore_n 3, 1) := by decide +kernel
theorem dX5_dispatchesWith_66 : decode cX5_dispatchesWith 66 = .ok (.aload_n 0, 1) := by decide +kernel
theorem dX5_dispatchesWith_67 : decode cX5_dispatchesWith 67 = .ok (.invokevirtual 173, 3) := by decide +kernel
theorem dX5_dispatchesWith_70 : decode cX5_dispatchesWith 70 = .ok (.aload_n 0, 1) := by decide +kernel
theorem dX5_dispatchesWith_71 : decode cX5_dispatchesWith 71 = .ok (.iload_n 3, 1) := by decide +kernel
theorem dX5_dispatchesWith_72 : decode cX5_dispatchesWith 72 = .ok (.invokevirtual 40, 3) := by decide +kernel
theorem dX5_dispatchesWith_75 : decode cX5_dispatchesWith 75 = .ok (.ireturn, 1) := by decide +kernel
set_option maxRecDepth 20000 in
theorem ggX5_mostFriction_X5_toValley : GoodIn wsX5_mostFriction wsX5_toValley := goodIn_r _ [6, 7, 8, 9, 5, 10, 11, 1, 12, 13, 14, 15, 16, 17, 18, 19, 20, 21, 22, 23, 24, 25, 26, 27, 28, 29, 30, 31, 32, 33, 34, 35, 36, 37, 38, 39, 40, 41, 42, 43, 44, 45, 46, 47, 48, 49, 50, 51, 52, 53, 54, 55, 56, 57, 58, 59, 60, 61, 62, 63, 64, 65, 66, 67, 68, 69, 70, 71, 72, 73, 74, 75, 76, 77, 78, 79, 80, 81, 82, 83, 84, 85, 86, 87, 88, 89, 90, 91, 92, 93, 94, 95, 96, 97, 98, 99, 100, 101, 102, 103, 104, 105, 106, 107, 108, 109, 110, 111, 112, 113, 114, 120, 121, 122, 123, 124, 125, 126, 127] (by decide +kernel) (by decide +kernel)
set_option maxRecDepth 20000 in
theorem gX5_mostFriction_X5_toValley : GoodIn wsX5_mostFriction (wsV RX5 176 RX5 yX5_toValley wsX5_toValley) := goodIn_app (goodIn_of _ (by decide +kernel)) ggX5_mostFriction_X5_toValley
set_option maxRecDepth 20000 in
theorem ggX5_mostFriction_X5_tells : GoodIn wsX5_mostFriction wsX5_tells := goodIn_r _ [118, 119, 120, 121, 122, 123, 124, 125, 126, 127] (by decide +kernel) (by decide +kernel)
set_option maxRecDepth 20000 in
theorem gX5_mostFriction_X5_tells : GoodIn wsX5_mostFriction (wsV RX5 40 RX5 yX5_tells wsX5_tells) := goodIn_app (goodIn_of _ (by decide +kernel)) ggX5_mostFriction_X5_tells
theorem dX5_mostFriction_0 : decode cX5_mostFriction 0 = .ok (.aload_n 0, 1) := by decide +kernel
theorem dX5_mostFriction_1 : decode cX5_mostFriction 1 = .ok (.getfield 7, 3) := by decide +kernel
theorem dX5_mostFriction_4 : decode cX5_mostFriction 4 = .ok (.iconst 4, 1) := by decide +kernel
theorem dX5_mostFriction_5 : decode cX5_mostFriction 5 = .ok (.iaload, 1) := by decide +kernel
theorem dX5_mostFriction_6 : decode cX5_mostFriction 6 = .ok (.istore_n 1, 1) := by decide +kernel
theorem dX5_mostFriction_7 : decode cX5_mostFriction 7 = .ok (.iconst (-1), 1) := by decide +kernel
theorem dX5_mostFriction_8 : decode cX5_mostFriction 8 = .ok (.istore_n 2, 1) := by decide +kernel
theorem dX5_mostFriction_9 : decode cX5_mostFriction 9 = .ok (.bipush 20, 2) := by decide +kernel
theorem dX5_mostFriction_11 : decode cX5_mostFriction 11 = .ok (.istore_n 3, 1) := by decide +kernel
theorem dX5_mostFriction_12 : decode cX5_mostFriction 12 = .ok (.iload_n 3, 1) := by decide +kernel
theorem dX5_mostFriction_13 : decode cX5_mostFriction 13 = .ok (.ifCond .lt 38, 3) := by decide +kernel
theorem dX5_mostFriction_16 : decode cX5_mostFriction 16 = .ok (.iload_n 2, 1) := by decide +kernel
theorem dX5_mostFriction_17 : decode cX5_mostFriction 17 = .ok (.iconst (-1), 1) := by decide +kernel
theorem dX5_mostFriction_18 : decode cX5_mostFriction 18 = .ok (.if_icmp .ne 33, 3) := by decide +kernel
theorem dX5_mostFriction_21 : decode cX5_mostFriction 21 = .ok (.aload_n 0, 1) := by decide +kernel
theorem dX5_mostFriction_22 : decode cX5_mostFriction 22 = .ok (.getfield 7, 3) := by decide +kernel
theorem dX5_mostFriction_25 : decode cX5_mostFriction 25 = .ok (.iconst 4, 1) := by decide +kernel
theorem dX5_mostFriction_26 : decode cX5_mostFriction 26 = .ok (.iload_n 3, 1) := by decide +kernel
theorem dX5_mostFriction_27 : decode cX5_mostFriction 27 = .ok (.iastore, 1) := by decide +kernel
theorem dX5_mostFriction_28 : decode cX5_mostFriction 28 = .ok (.aload_n 0, 1) := by decide +kernel
theorem dX5_mostFriction_29 : decode cX5_mostFriction 29 = .ok (.sipush 500, 3) := by decide +kernel
theorem dX5_mostFriction_32 : decode cX5_mostFriction 32 = .ok (.invokevirtual 176, 3) := by decide +kernel
theorem dX5_mostFriction_35 : decode cX5_mostFriction 35 = .ok (.iconst (-1), 1) := by decide +kernel
theorem dX5_mostFriction_36 : decode cX5_mostFriction 36 = .ok (.if_icmp .ne 7, 3) := by decide +kernel
theorem dX5_mostFriction_39 : decode cX5_mostFriction 39 = .ok (.iload_n 3, 1) := by decide +kernel
theorem dX5_mostFriction_40 : decode cX5_mostFriction 40 = .ok (.goto 4, 3) := by decide +kernel
theorem dX5_mostFriction_43 : decode cX5_mostFriction 43 = .ok (.iconst (-1), 1) := by decide +kernel
theorem dX5_mostFriction_44 : decode cX5_mostFriction 44 = .ok (.istore_n 2, 1) := by decide +kernel
theorem dX5_mostFriction_45 : decode cX5_mostFriction 45 = .ok (.iinc 3 (-1), 3) := by decide +kernel
theorem dX5_mostFriction_48 : decode cX5_mostFriction 48 = .ok (.goto (-36), 3) := by decide +kernel
theorem dX5_mostFriction_51 : decode cX5_mostFriction 51 = .ok (.aload_n 0, 1) := by decide +kernel
theorem dX5_mostFriction_52 : decode cX5_mostFriction 52 = .ok (.getfield 7, 3) := by decide +kernel
theorem dX5_mostFriction_55 : decode cX5_mostFriction 55 = .ok (.iconst 4, 1) := by decide +kernel
theorem dX5_mostFriction_56 : decode cX5_mostFriction 56 = .ok (.iload_n 1, 1) := by decide +kernel
theorem dX5_mostFriction_57 : decode cX5_mostFriction 57 = .ok (.iastore, 1) := by decide +kernel
theorem dX5_mostFriction_58 : decode cX5_mostFriction 58 = .ok (.aload_n 0, 1) := by decide +kernel
theorem dX5_mostFriction_59 : decode cX5_mostFriction 59 = .ok (.iload_n 2, 1) := by decide +kernel
theorem dX5_mostFriction_60 : decode cX5_mostFriction 60 = .ok (.invokevirtual 40, 3) := by decide +kernel
theorem dX5_mostFriction_63 : decode cX5_mostFriction 63 = .ok (.ireturn, 1) := by decide +kernel
set_option maxRecDepth 20000 in
theorem ggX5_comesBy_X5_after : GoodIn wsX5_comesBy wsX5_after := goodIn_r _ [6, 1, 11, 12, 13, 14, 15, 16, 17, 18] (by decide +kernel) (by decide +kernel)
set_option maxRecDepth 20000 in
theorem gX5_comesBy_X5_after : GoodIn wsX5_comesBy (wsV RX5 107 RX5 yX5_after wsX5_after) := goodIn_app (goodIn_of _ (by decide +kernel)) ggX5_comesBy_X5_after
set_option maxRecDepth 20000 in
theorem ggX5_comesBy_X5_squareOn : GoodIn wsX5_comesBy wsX5_squareOn := goodIn_r _ [10, 1, 11, 12, 13, 14, 15, 16, 17, 18] (by decide +kernel) (by decide +kernel)
set_option maxRecDepth 20000 in
theorem gX5_comesBy_X5_squareOn : GoodIn wsX5_comesBy (wsV RX5 113 RX5 yX5_squareOn wsX5_squareOn) := goodIn_app (goodIn_of _ (by decide +kernel)) ggX5_comesBy_X5_squareOn
theorem dX5_comesBy_0 : decode cX5_comesBy 0 = .ok (.iload_n 1, 1) := by decide +kernel
theorem dX5_comesBy_1 : decode cX5_comesBy 1 = .ok (.istore_n 3, 1) := by decide +kernel
theorem dX5_comesBy_2 : decode cX5_comesBy 2 = .ok (.iload_n 2, 1) := by decide +kernel
theorem dX5_comesBy_3 : decode cX5_comesBy 3 = .ok (.istore 4, 2) := by decide +kernel
theorem dX5_comesBy_5 : decode cX5_comesBy 5 = .ok (.aload_n 0, 1) := by decide +kernel
theorem dX5_comesBy_6 : decode cX5_comesBy 6 = .ok (.getfield 7, 3) := by decide +kernel
theorem dX5_comesBy_9 : decode cX5_comesBy 9 = .ok (.bipush 41, 2) := by decide +kernel
theorem dX5_comesBy_11 : decode cX5_comesBy 11 = .ok (.iload_n 3, 1) := by decide +kernel
theorem dX5_comesBy_12 : decode cX5_comesBy 12 = .ok (.iadd, 1) := by decide +kernel
theorem dX5_comesBy_13 : decode cX5_comesBy 13 = .ok (.iaload, 1) := by decide +kernel
theorem dX5_comesBy_14 : decode cX5_comesBy 14 = .ok (.iconst 2, 1) := by decide +kernel
theorem dX5_comesBy_15 : decode cX5_comesBy 15 = .ok (.if_icmp .eq 58, 3) := by decide +kernel
theorem dX5_comesBy_18 : decode cX5_comesBy 18 = .ok (.aload_n 0, 1) := by decide +kernel
theorem dX5_comesBy_19 : decode cX5_comesBy 19 = .ok (.iload_n 3, 1) := by decide +kernel
theorem dX5_comesBy_20 : decode cX5_comesBy 20 = .ok (.invokevirtual 107, 3) := by decide +kernel
theorem dX5_comesBy_23 : decode cX5_comesBy 23 = .ok (.istore 5, 2) := by decide +kernel
theorem dX5_comesBy_25 : decode cX5_comesBy 25 = .ok (.aload_n 0, 1) := by decide +kernel
theorem dX5_comesBy_26 : decode cX5_comesBy 26 = .ok (.iload_n 3, 1) := by decide +kernel
theorem dX5_comesBy_27 : decode cX5_comesBy 27 = .ok (.iload 5, 2) := by decide +kernel
theorem dX5_comesBy_29 : decode cX5_comesBy 29 = .ok (.iload 4, 2) := by decide +kernel
theorem dX5_comesBy_31 : decode cX5_comesBy 31 = .ok (.aload_n 0, 1) := by decide +kernel
theorem dX5_comesBy_32 : decode cX5_comesBy 32 = .ok (.getfield 7, 3) := by decide +kernel
theorem dX5_comesBy_35 : decode cX5_comesBy 35 = .ok (.iconst 4, 1) := by decide +kernel
theorem dX5_comesBy_36 : decode cX5_comesBy 36 = .ok (.iaload, 1) := by decide +kernel
theorem dX5_comesBy_37 : decode cX5_comesBy 37 = .ok (.invokevirtual 113, 3) := by decide +kernel
theorem dX5_comesBy_40 : decode cX5_comesBy 40 = .ok (.istore 4, 2) := by decide +kernel
theorem dX5_comesBy_42 : decode cX5_comesBy 42 = .ok (.iload 4, 2) := by decide +kernel
theorem dX5_comesBy_44 : decode cX5_comesBy 44 = .ok (.ifCond .lt 21, 3) := by decide +kernel
theorem dX5_comesBy_47 : decode cX5_comesBy 47 = .ok (.iload 4, 2) := by decide +kernel
theorem dX5_comesBy_49 : decode cX5_comesBy 49 = .ok (.ifCond .ne 18, 3) := by decide +kernel
theorem dX5_comesBy_52 : decode cX5_comesBy 52 = .ok (.aload_n 0, 1) := by decide +kernel
theorem dX5_comesBy_53 : decode cX5_comesBy 53 = .ok (.getfield 7, 3) := by decide +kernel
theorem dX5_comesBy_56 : decode cX5_comesBy 56 = .ok (.bipush 41, 2) := by decide +kernel
theorem dX5_comesBy_58 : decode cX5_comesBy 58 = .ok (.iload 5, 2) := by decide +kernel
theorem dX5_comesBy_60 : decode cX5_comesBy 60 = .ok (.iadd, 1) := by decide +kernel
theorem dX5_comesBy_61 : decode cX5_comesBy 61 = .ok (.iaload, 1) := by decide +kernel
theorem dX5_comesBy_62 : decode cX5_comesBy 62 = .ok (.ifCond .ne 5, 3) := by decide +kernel
theorem dX5_comesBy_65 : decode cX5_comesBy 65 = .ok (.iconst 0, 1) := by decide +kernel
theorem dX5_comesBy_66 : decode cX5_comesBy 66 = .ok (.ireturn, 1) := by decide +kernel
theorem dX5_comesBy_67 : decode cX5_comesBy 67 = .ok (.iload 5, 2) := by decide +kernel
theorem dX5_comesBy_69 : decode cX5_comesBy 69 = .ok (.istore_n 3, 1) := by decide +kernel
theorem dX5_comesBy_70 : decode cX5_comesBy 70 = .ok (.goto (-65), 3) := by decide +kernel
theorem dX5_comesBy_73 : decode cX5_comesBy 73 = .ok (.iconst 1, 1) := by decide +kernel
theorem dX5_comesBy_74 : decode cX5_comesBy 74 = .ok (.ireturn, 1) := by decide +kernel
set_option maxRecDepth 20000 in
theorem ggX5_leastSquare_X5_isCell : GoodIn wsX5_leastSquare wsX5_isCell := goodIn_r _ [5, 6, 7, 8, 4, 9, 31, 32, 33, 34, 35, 36, 37, 38] (by decide +kernel) (by decide +kernel)
set_option maxRecDepth 20000 in
theorem gX5_leastSquare_X5_isCell : GoodIn wsX5_leastSquare (wsV RX5 88 RX5 yX5_isCell wsX5_isCell) := goodIn_app (goodIn_of _ (by decide +kernel)) ggX5_leastSquare_X5_isCell
set_option maxRecDepth 20000 in
theorem ggX5_leastSquare_X5_fails : GoodIn wsX5_leastSquare wsX5_fails := goodIn_r _ [13, 14, 31, 32, 33, 34, 35, 36, 37, 38] (by decide +kernel) (by decide +kernel)
set_option maxRecDepth 20000 in
theorem gX5_leastSquare_X5_fails : GoodIn wsX5_leastSquare (wsV RX5 36 RX5 yX5_fails wsX5_fails) := goodIn_app (goodIn_of _ (by decide +kernel)) ggX5_leastSquare_X5_fails
set_option maxRecDepth 20000 in
theorem ggX5_leastSquare_X5_comesBy : GoodIn wsX5_leastSquare wsX5_comesBy := goodIn_r _ [18, 6, 19, 20, 21, 4, 22, 23, 24, 25, 26, 31, 32, 33, 34, 35, 36, 37, 38] (by decide +kernel) (by decide +kernel)
set_option maxRecDepth 20000 in
theorem gX5_leastSquare_X5_comesBy : GoodIn wsX5_leastSquare (wsV RX5 179 RX5 yX5_comesBy wsX5_comesBy) := goodIn_app (goodIn_of _ (by decide +kernel)) ggX5_leastSquare_X5_comesBy
set_option maxRecDepth 20000 in
theorem ggX5_leastSquare_X5_tells : GoodIn wsX5_leastSquare wsX5_tells := goodIn_r _ [30, 14, 31, 32, 33, 34, 35, 36, 37, 38] (by decide +kernel) (by decide +kernel)
set_option maxRecDepth 20000 in
theorem gX5_leastSquare_X5_tells : GoodIn wsX5_leastSquare (wsV RX5 40 RX5 yX5_tells wsX5_tells) := goodIn_app (goodIn_of _ (by decide +kernel)) ggX5_leastSquare_X5_tells
theorem dX5_leastSquare_0 : decode cX5_leastSquare 0 = .ok (.aload_n 0, 1) := by decide +kernel
theorem dX5_leastSquare_1 : decode cX5_leastSquare 1 = .ok (.iload_n 1, 1) := by decide +kernel
theorem dX5_leastSquare_2 : decode cX5_leastSquare 2 = .ok (.invokevirtual 88, 3) := by decide +kernel
theorem dX5_leastSquare_5 : decode cX5_leastSquare 5 = .ok (.ifCond .ne 9, 3) := by decide +kernel
theorem dX5_leastSquare_8 : decode cX5_leastSquare 8 = .ok (.aload_n 0, 1) := by decide +kernel
theorem dX5_leastSquare_9 : decode cX5_leastSquare 9 = .ok (.iconst 1, 1) := by decide +kernel
theorem dX5_leastSquare_10 : decode cX5_leastSquare 10 = .ok (.invokevirtual 36, 3) := by decide +kernel
theorem dX5_leastSquare_13 : decode cX5_leastSquare 13 = .ok (.ireturn, 1) := by decide +kernel
theorem dX5_leastSquare_14 : decode cX5_leastSquare 14 = .ok (.iconst 0, 1) := by decide +kernel
theorem dX5_leastSquare_15 : decode cX5_leastSquare 15 = .ok (.istore_n 2, 1) := by decide +kernel
theorem dX5_leastSquare_16 : decode cX5_leastSquare 16 = .ok (.sipush 10000, 3) := by decide +kernel
theorem dX5_leastSquare_19 : decode cX5_leastSquare 19 = .ok (.istore_n 3, 1) := by decide +kernel
theorem dX5_leastSquare_20 : decode cX5_leastSquare 20 = .ok (.iload_n 2, 1) := by decide +kernel
theorem dX5_leastSquare_21 : decode cX5_leastSquare 21 = .ok (.iload_n 3, 1) := by decide +kernel
theorem dX5_leastSquare_22 : decode cX5_leastSquare 22 = .ok (.if_icmp .ge 34, 3) := by decide +kernel
theorem dX5_leastSquare_25 : decode cX5_leastSquare 25 = .ok (.iload_n 2, 1) := by decide +kernel
theorem dX5_leastSquare_26 : decode cX5_leastSquare 26 = .ok (.iload_n 3, 1) := by decide +kernel
theorem dX5_leastSquare_27 : decode cX5_leastSquare 27 = .ok (.iadd, 1) := by decide +kernel
theorem dX5_leastSquare_28 : decode cX5_leastSquare 28 = .ok (.iconst 2, 1) := by decide +kernel
theorem dX5_leastSquare_29 : decode cX5_leastSquare 29 = .ok (.idiv, 1) := by decide +kernel
theorem dX5_leastSquare_30 : decode cX5_leastSquare 30 = .ok (.istore 4, 2) := by decide +kernel
theorem dX5_leastSquare_32 : decode cX5_leastSquare 32 = .ok (.aload_n 0, 1) := by decide +kernel
theorem dX5_leastSquare_33 : decode cX5_leastSquare 33 = .ok (.iload_n 1, 1) := by decide +kernel
theorem dX5_leastSquare_34 : decode cX5_leastSquare 34 = .ok (.iload 4, 2) := by decide +kernel
theorem dX5_leastSquare_36 : decode cX5_leastSquare 36 = .ok (.invokevirtual 179, 3) := by decide +kernel
theorem dX5_leastSquare_39 : decode cX5_leastSquare 39 = .ok (.ifCond .eq 9, 3) := by decide +kernel
theorem dX5_leastSquare_42 : decode cX5_leastSquare 42 = .ok (.iload 4, 2) := by decide +kernel
theorem dX5_leastSquare_44 : decode cX5_leastSquare 44 = .ok (.istore_n 3, 1) := by decide +kernel
theorem dX5_leastSquare_45 : decode cX5_leastSquare 45 = .ok (.goto 8, 3) := by decide +kernel
theorem dX5_leastSquare_48 : decode cX5_leastSquare 48 = .ok (.iload 4, 2) := by decide +kernel
theorem dX5_leastSquare_50 : decode cX5_leastSquare 50 = .ok (.iconst 1, 1) := by decide +kernel
theorem dX5_leastSquare_51 : decode cX5_leastSquare 51 = .ok (.iadd, 1) := by decide +kernel
theorem dX5_leastSquare_52 : decode cX5_leastSquare 52 = .ok (.istore_n 2, 1) := by decide +kernel
theorem dX5_leastSquare_53 : decode cX5_leastSquare 53 = .ok (.goto (-33), 3) := by decide +kernel
theorem dX5_leastSquare_56 : decode cX5_leastSquare 56 = .ok (.aload_n 0, 1) := by decide +kernel
theorem dX5_leastSquare_57 : decode cX5_leastSquare 57 = .ok (.iload_n 2, 1) := by decide +kernel
theorem dX5_leastSquare_58 : decode cX5_leastSquare 58 = .ok (.sipush 9999, 3) := by decide +kernel
theorem dX5_leastSquare_61 : decode cX5_leastSquare 61 = .ok (.if_icmp .le 7, 3) := by decide +kernel
theorem dX5_leastSquare_64 : decode cX5_leastSquare 64 = .ok (.iconst (-1), 1) := by decide +kernel
theorem dX5_leastSquare_65 : decode cX5_leastSquare 65 = .ok (.goto 4, 3) := by decide +kernel
theorem dX5_leastSquare_68 : decode cX5_leastSquare 68 = .ok (.iload_n 2, 1) := by decide +kernel
theorem dX5_leastSquare_69 : decode cX5_leastSquare 69 = .ok (.invokevirtual 40, 3) := by decide +kernel
theorem dX5_leastSquare_72 : decode cX5_leastSquare 72 = .ok (.ireturn, 1) := by decide +kernel
set_option maxRecDepth 20000 in
theorem ggX5_meanWarmth_X5_of : GoodIn wsX5_meanWarmth wsX5_of := goodIn_r _ [7, 2, 8, 9, 10, 11, 12, 13, 14, 15] (by decide +kernel) (by decide +kernel)
set_option maxRecDepth 20000 in
theorem gX5_meanWarmth_X5_of : GoodIn wsX5_meanWarmth (wsV RX5 47 RX5 yX5_of wsX5_of) := goodIn_app (goodIn_of _ (by decide +kernel)) ggX5_meanWarmth_X5_of
theorem dX5_meanWarmth_0 : decode cX5_meanWarmth 0 = .ok (.aload_n 0, 1) := by decide +kernel
theorem dX5_meanWarmth_1 : decode cX5_meanWarmth 1 = .ok (.iconst 0, 1) := by decide +kernel
theorem dX5_meanWarmth_2 : decode cX5_meanWarmth 2 = .ok (.putfield 29, 3) := by decide +kernel
theorem dX5_meanWarmth_5 : decode cX5_meanWarmth 5 = .ok (.iconst 0, 1) := by decide +kernel
theorem dX5_meanWarmth_6 : decode cX5_meanWarmth 6 = .ok (.istore_n 1, 1) := by decide +kernel
theorem dX5_meanWarmth_7 : decode cX5_meanWarmth 7 = .ok (.iconst 0, 1) := by decide +kernel
theorem dX5_meanWarmth_8 : decode cX5_meanWarmth 8 = .ok (.istore_n 2, 1) := by decide +kernel
theorem dX5_meanWarmth_9 : decode cX5_meanWarmth 9 = .ok (.iload_n 2, 1) := by decide +kernel
theorem dX5_meanWarmth_10 : decode cX5_meanWarmth 10 = .ok (.aload_n 0, 1) := by decide +kernel
theorem dX5_meanWarmth_11 : decode cX5_meanWarmth 11 = .ok (.getfield 7, 3) := by decide +kernel
theorem dX5_meanWarmth_14 : decode cX5_meanWarmth 14 = .ok (.iconst 2, 1) := by decide +kernel
theorem dX5_meanWarmth_15 : decode cX5_meanWarmth 15 = .ok (.iaload, 1) := by decide +kernel
theorem dX5_meanWarmth_16 : decode cX5_meanWarmth 16 = .ok (.if_icmp .ge 18, 3) := by decide +kernel
theorem dX5_meanWarmth_19 : decode cX5_meanWarmth 19 = .ok (.iload_n 1, 1) := by decide +kernel
theorem dX5_meanWarmth_20 : decode cX5_meanWarmth 20 = .ok (.aload_n 0, 1) := by decide +kernel
theorem dX5_meanWarmth_21 : decode cX5_meanWarmth 21 = .ok (.iload_n 2, 1) := by decide +kernel
theorem dX5_meanWarmth_22 : decode cX5_meanWarmth 22 = .ok (.iconst 3, 1) := by decide +kernel
theorem dX5_meanWarmth_23 : decode cX5_meanWarmth 23 = .ok (.invokevirtual 47, 3) := by decide +kernel
theorem dX5_meanWarmth_26 : decode cX5_meanWarmth 26 = .ok (.iadd, 1) := by decide +kernel
theorem dX5_meanWarmth_27 : decode cX5_meanWarmth 27 = .ok (.istore_n 1, 1) := by decide +kernel
theorem dX5_meanWarmth_28 : decode cX5_meanWarmth 28 = .ok (.iinc 2 1, 3) := by decide +kernel
theorem dX5_meanWarmth_31 : decode cX5_meanWarmth 31 = .ok (.goto (-22), 3) := by decide +kernel
theorem dX5_meanWarmth_34 : decode cX5_meanWarmth 34 = .ok (.aload_n 0, 1) := by decide +kernel
theorem dX5_meanWarmth_35 : decode cX5_meanWarmth 35 = .ok (.getfield 7, 3) := by decide +kernel
theorem dX5_meanWarmth_38 : decode cX5_meanWarmth 38 = .ok (.iconst 2, 1) := by decide +kernel
theorem dX5_meanWarmth_39 : decode cX5_meanWarmth 39 = .ok (.iaload, 1) := by decide +kernel
theorem dX5_meanWarmth_40 : decode cX5_meanWarmth 40 = .ok (.ifCond .ne 7, 3) := by decide +kernel
theorem dX5_meanWarmth_43 : decode cX5_meanWarmth 43 = .ok (.dconst 0, 1) := by decide +kernel
theorem dX5_meanWarmth_44 : decode cX5_meanWarmth 44 = .ok (.goto 13, 3) := by decide +kernel
theorem dX5_meanWarmth_47 : decode cX5_meanWarmth 47 = .ok (.iload_n 1, 1) := by decide +kernel
theorem dX5_meanWarmth_48 : decode cX5_meanWarmth 48 = .ok (.i2d, 1) := by decide +kernel
theorem dX5_meanWarmth_49 : decode cX5_meanWarmth 49 = .ok (.aload_n 0, 1) := by decide +kernel
theorem dX5_meanWarmth_50 : decode cX5_meanWarmth 50 = .ok (.getfield 7, 3) := by decide +kernel
theorem dX5_meanWarmth_53 : decode cX5_meanWarmth 53 = .ok (.iconst 2, 1) := by decide +kernel
theorem dX5_meanWarmth_54 : decode cX5_meanWarmth 54 = .ok (.iaload, 1) := by decide +kernel
theorem dX5_meanWarmth_55 : decode cX5_meanWarmth 55 = .ok (.i2d, 1) := by decide +kernel
theorem dX5_meanWarmth_56 : decode cX5_meanWarmth 56 = .ok (.ddiv, 1) := by decide +kernel
theorem dX5_meanWarmth_57 : decode cX5_meanWarmth 57 = .ok (.dreturn, 1) := by decide +kernel
set_option maxRecDepth 20000 in
theorem ggX5_append_X5_in : GoodIn wsX5_append wsX5_in := goodIn_r _ [6] (by decide +kernel) (by decide +kernel)
set_option maxRecDepth 20000 in
theorem gX5_append_X5_in : GoodIn wsX5_append (va_wsS RX5 43 yX5_in wsX5_in) := goodIn_app (goodIn_of _ (by decide +kernel)) ggX5_append_X5_in
set_option maxRecDepth 20000 in
theorem ggX5_append_X5_fails : GoodIn wsX5_append wsX5_fails := goodIn_r _ [10, 11, 16, 17, 18, 19, 20, 21, 22, 23] (by decide +kernel) (by decide +kernel)
set_option maxRecDepth 20000 in
theorem gX5_append_X5_fails : GoodIn wsX5_append (wsV RX5 36 RX5 yX5_fails wsX5_fails) := goodIn_app (goodIn_of _ (by decide +kernel)) ggX5_append_X5_fails
set_option maxRecDepth 20000 in
theorem ggX5_append_X5_tells : GoodIn wsX5_append wsX5_tells := goodIn_r _ [15, 11, 16, 17, 18, 19, 20, 21, 22, 23] (by decide +kernel) (by decide +kernel)
set_option maxRecDepth 20000 in
theorem gX5_append_X5_tells : GoodIn wsX5_append (wsV RX5 40 RX5 yX5_tells wsX5_tells) := goodIn_app (goodIn_of _ (by decide +kernel)) ggX5_append_X5_tells
theorem dX5_append_0 : decode cX5_append 0 = .ok (.iload_n 1, 1) := by decide +kernel
theorem dX5_append_1 : decode cX5_append 1 = .ok (.iconst 0, 1) := by decide +kernel
theorem dX5_append_2 : decode cX5_append 2 = .ok (.bipush 127, 2) := by decide +kernel
theorem dX5_append_4 : decode cX5_append 4 = .ok (.invokestatic 43, 3) := by decide +kernel
theorem dX5_append_7 : decode cX5_append 7 = .ok (.ifCond .ne 9, 3) := by decide +kernel
theorem dX5_append_10 : decode cX5_append 10 = .ok (.aload_n 0, 1) := by decide +kernel
theorem dX5_append_11 : decode cX5_append 11 = .ok (.iconst 1, 1) := by decide +kernel
theorem dX5_append_12 : decode cX5_append 12 = .ok (.invokevirtual 36, 3) := by decide +kernel
theorem dX5_append_15 : decode cX5_append 15 = .ok (.ireturn, 1) := by decide +kernel
theorem dX5_append_16 : decode cX5_append 16 = .ok (.aload_n 0, 1) := by decide +kernel
theorem dX5_append_17 : decode cX5_append 17 = .ok (.getfield 182, 3) := by decide +kernel
theorem dX5_append_20 : decode cX5_append 20 = .ok (.bipush 90, 2) := by decide +kernel
theorem dX5_append_22 : decode cX5_append 22 = .ok (.if_icmp .ne 9, 3) := by decide +kernel
theorem dX5_append_25 : decode cX5_append 25 = .ok (.aload_n 0, 1) := by decide +kernel
theorem dX5_append_26 : decode cX5_append 26 = .ok (.iconst 2, 1) := by decide +kernel
theorem dX5_append_27 : decode cX5_append 27 = .ok (.invokevirtual 36, 3) := by decide +kernel
theorem dX5_append_30 : decode cX5_append 30 = .ok (.ireturn, 1) := by decide +kernel
theorem dX5_append_31 : decode cX5_append 31 = .ok (.aload_n 0, 1) := by decide +kernel
theorem dX5_append_32 : decode cX5_append 32 = .ok (.getfield 19, 3) := by decide +kernel
theorem dX5_append_35 : decode cX5_append 35 = .ok (.aload_n 0, 1) := by decide +kernel
theorem dX5_append_36 : decode cX5_append 36 = .ok (.getfield 182, 3) := by decide +kernel
theorem dX5_append_39 : decode cX5_append 39 = .ok (.iload_n 1, 1) := by decide +kernel
theorem dX5_append_40 : decode cX5_append 40 = .ok (.iastore, 1) := by decide +kernel
theorem dX5_append_41 : decode cX5_append 41 = .ok (.aload_n 0, 1) := by decide +kernel
theorem dX5_append_42 : decode cX5_append 42 = .ok (.dup, 1) := by decide +kernel
theorem dX5_append_43 : decode cX5_append 43 = .ok (.getfield 182, 3) := by decide +kernel
theorem dX5_append_46 : decode cX5_append 46 = .ok (.iconst 1, 1) := by decide +kernel
theorem dX5_append_47 : decode cX5_append 47 = .ok (.iadd, 1) := by decide +kernel
theorem dX5_append_48 : decode cX5_append 48 = .ok (.putfield 182, 3) := by decide +kernel
theorem dX5_append_51 : decode cX5_append 51 = .ok (.aload_n 0, 1) := by decide +kernel
theorem dX5_append_52 : decode cX5_append 52 = .ok (.aload_n 0, 1) := by decide +kernel
theorem dX5_append_53 : decode cX5_append 53 = .ok (.getfield 182, 3) := by decide +kernel
theorem dX5_append_56 : decode cX5_append 56 = .ok (.invokevirtual 40, 3) := by decide +kernel
theorem dX5_append_59 : decode cX5_append 59 = .ok (.ireturn, 1) := by decide +kernel
set_option maxRecDepth 20000 in
theorem ggX5_clearText_X5_tells : GoodIn wsX5_clearText wsX5_tells := goodIn_r _ [6, 7, 8, 9, 10, 11, 12, 13, 14, 15] (by decide +kernel) (by decide +kernel)
set_option maxRecDepth 20000 in
theorem gX5_clearText_X5_tells : GoodIn wsX5_clearText (wsV RX5 40 RX5 yX5_tells wsX5_tells) := goodIn_app (goodIn_of _ (by decide +kernel)) ggX5_clearText_X5_tells
theorem dX5_clearText_0 : decode cX5_clearText 0 = .ok (.aload_n 0, 1) := by decide +kernel
theorem dX5_clearText_1 : decode cX5_clearText 1 = .ok (.getfield 182, 3) := by decide +kernel
theorem dX5_clearText_4 : decode cX5_clearText 4 = .ok (.istore_n 1, 1) := by decide +kernel
theorem dX5_clearText_5 : decode cX5_clearText 5 = .ok (.aload_n 0, 1) := by decide +kernel
theorem dX5_clearText_6 : decode cX5_clearText 6 = .ok (.iconst 0, 1) := by decide +kernel
theorem dX5_clearText_7 : decode cX5_clearText 7 = .ok (.putfield 182, 3) := by decide +kernel
theorem dX5_clearText_10 : decode cX5_clearText 10 = .ok (.aload_n 0, 1) := by decide +kernel
theorem dX5_clearText_11 : decode cX5_clearText 11 = .ok (.iload_n 1, 1) := by decide +kernel
theorem dX5_clearText_12 : decode cX5_clearText 12 = .ok (.invokevirtual 40, 3) := by decide +kernel
theorem dX5_clearText_15 : decode cX5_clearText 15 = .ok (.ireturn, 1) := by decide +kernel
theorem dX5_kindBy_0 : decode cX5_kindBy 0 = .ok (.iload_n 0, 1) := by decide +kernel
theorem dX5_kindBy_1 : decode cX5_kindBy 1 = .ok (.bipush 46, 2) := by decide +kernel
theorem dX5_kindBy_3 : decode cX5_kindBy 3 = .ok (.if_icmp .ne 7, 3) := by decide +kernel
theorem dX5_kindBy_6 : decode cX5_kindBy 6 = .ok (.iconst 0, 1) := by decide +kernel
theorem dX5_kindBy_7 : decode cX5_kindBy 7 = .ok (.goto 24, 3) := by decide +kernel
theorem dX5_kindBy_10 : decode cX5_kindBy 10 = .ok (.iload_n 0, 1) := by decide +kernel
theorem dX5_kindBy_11 : decode cX5_kindBy 11 = .ok (.bipush 108, 2) := by decide +kernel
theorem dX5_kindBy_13 : decode cX5_kindBy 13 = .ok (.if_icmp .ne 7, 3) := by decide +kernel
theorem dX5_kindBy_16 : decode cX5_kindBy 16 = .ok (.iconst 1, 1) := by decide +kernel
theorem dX5_kindBy_17 : decode cX5_kindBy 17 = .ok (.goto 14, 3) := by decide +kernel
theorem dX5_kindBy_20 : decode cX5_kindBy 20 = .ok (.iload_n 0, 1) := by decide +kernel
theorem dX5_kindBy_21 : decode cX5_kindBy 21 = .ok (.bipush 98, 2) := by decide +kernel
theorem dX5_kindBy_23 : decode cX5_kindBy 23 = .ok (.if_icmp .ne 7, 3) := by decide +kernel
theorem dX5_kindBy_26 : decode cX5_kindBy 26 = .ok (.iconst 2, 1) := by decide +kernel
theorem dX5_kindBy_27 : decode cX5_kindBy 27 = .ok (.goto 4, 3) := by decide +kernel
theorem dX5_kindBy_30 : decode cX5_kindBy 30 = .ok (.iconst (-1), 1) := by decide +kernel
theorem dX5_kindBy_31 : decode cX5_kindBy 31 = .ok (.ireturn, 1) := by decide +kernel
set_option maxRecDepth 20000 in
theorem ggX5_fault_X5_in : GoodIn wsX5_fault wsX5_in := goodIn_r _ [6] (by decide +kernel) (by decide +kernel)
set_option maxRecDepth 20000 in
theorem gX5_fault_X5_in : GoodIn wsX5_fault (va_wsS RX5 43 yX5_in wsX5_in) := goodIn_app (goodIn_of _ (by decide +kernel)) ggX5_fault_X5_in
set_option maxRecDepth 20000 in
theorem ggX5_fault_X5_kindBy : GoodIn wsX5_fault wsX5_kindBy := goodIn_r _ [9] (by decide +kernel) (by decide +kernel)
set_option maxRecDepth 20000 in
theorem gX5_fault_X5_kindBy : GoodIn wsX5_fault (va_wsS RX5 185 yX5_kindBy wsX5_kindBy) := goodIn_app (goodIn_of _ (by decide +kernel)) ggX5_fault_X5_kindBy
theorem dX5_fault_0 : decode cX5_fault 0 = .ok (.iconst 0, 1) := by decide +kernel
theorem dX5_fault_1 : decode cX5_fault 1 = .ok (.istore_n 1, 1) := by decide +kernel
theorem dX5_fault_2 : decode cX5_fault 2 = .ok (.iconst 0, 1) := by decide +kernel
theorem dX5_fault_3 : decode cX5_fault 3 = .ok (.istore_n 2, 1) := by decide +kernel
theorem dX5_fault_4 : decode cX5_fault 4 = .ok (.iconst 0, 1) := by decide +kernel
theorem dX5_fault_5 : decode cX5_fault 5 = .ok (.istore_n 3, 1) := by decide +kernel
theorem dX5_fault_6 : decode cX5_fault 6 = .ok (.iload_n 3, 1) := by decide +kernel
theorem dX5_fault_7 : decode cX5_fault 7 = .ok (.aload_n 0, 1) := by decide +kernel
theorem dX5_fault_8 : decode cX5_fault 8 = .ok (.getfield 182, 3) := by decide +kernel
theorem dX5_fault_11 : decode cX5_fault 11 = .ok (.if_icmp .ge 87, 3) := by decide +kernel
theorem dX5_fault_14 : decode cX5_fault 14 = .ok (.iload_n 3, 1) := by decide +kernel
theorem dX5_fault_15 : decode cX5_fault 15 = .ok (.iconst 2, 1) := by decide +kernel
theorem dX5_fault_16 : decode cX5_fault 16 = .ok (.irem, 1) := by decide +kernel
theorem dX5_fault_17 : decode cX5_fault 17 = .ok (.ifCond .ne 27, 3) := by decide +kernel
theorem dX5_fault_20 : decode cX5_fault 20 = .ok (.aload_n 0, 1) := by decide +kernel
theorem dX5_fault_21 : decode cX5_fault 21 = .ok (.getfield 19, 3) := by decide +kernel
theorem dX5_fault_24 : decode cX5_fault 24 = .ok (.iload_n 3, 1) := by decide +kernel
theorem dX5_fault_25 : decode cX5_fault 25 = .ok (.iaload, 1) := by decide +kernel
theorem dX5_fault_26 : decode cX5_fault 26 = .ok (.bipush 48, 2) := by decide +kernel
theorem dX5_fault_28 : decode cX5_fault 28 = .ok (.bipush 57, 2) := by decide +kernel
theorem dX5_fault_30 : decode cX5_fault 30 = .ok (.invokestatic 43, 3) := by decide +kernel
theorem dX5_fault_33 : decode cX5_fault 33 = .ok (.ifCond .eq 9, 3) := by decide +kernel
theorem dX5_fault_36 : decode cX5_fault 36 = .ok (.iload_n 1, 1) := by decide +kernel
theorem dX5_fault_37 : decode cX5_fault 37 = .ok (.bipush 30, 2) := by decide +kernel
theorem dX5_fault_39 : decode cX5_fault 39 = .ok (.if_icmp .ne 53, 3) := by decide +kernel
theorem dX5_fault_42 : decode cX5_fault 42 = .ok (.iload_n 3, 1) := by decide +kernel
theorem dX5_fault_43 : decode cX5_fault 43 = .ok (.ireturn, 1) := by decide +kernel
theorem dX5_fault_44 : decode cX5_fault 44 = .ok (.aload_n 0, 1) := by decide +kernel
theorem dX5_fault_45 : decode cX5_fault 45 = .ok (.getfield 19, 3) := by decide +kernel
theorem dX5_fault_48 : decode cX5_fault 48 = .ok (.iload_n 3, 1) := by decide +kernel
theorem dX5_fault_49 : decode cX5_fault 49 = .ok (.iaload, 1) := by decide +kernel
theorem dX5_fault_50 : decode cX5_fault 50 = .ok (.invokestatic 185, 3) := by decide +kernel
theorem dX5_fault_53 : decode cX5_fault 53 = .ok (.istore 4, 2) := by decide +kernel
theorem dX5_fault_55 : decode cX5_fault 55 = .ok (.iload 4, 2) := by decide +kernel
theorem dX5_fault_57 : decode cX5_fault 57 = .ok (.iconst (-1), 1) := by decide +kernel
theorem dX5_fault_58 : decode cX5_fault 58 = .ok (.if_icmp .eq 15, 3) := by decide +kernel
theorem dX5_fault_61 : decode cX5_fault 61 = .ok (.iload 4, 2) := by decide +kernel
theorem dX5_fault_63 : decode cX5_fault 63 = .ok (.iconst 2, 1) := by decide +kernel
theorem dX5_fault_64 : decode cX5_fault 64 = .ok (.if_icmp .ne 11, 3) := by decide +kernel
theorem dX5_fault_67 : decode cX5_fault 67 = .ok (.iload_n 2, 1) := by decide +kernel
theorem dX5_fault_68 : decode cX5_fault 68 = .ok (.bipush 8, 2) := by decide +kernel
theorem dX5_fault_70 : decode cX5_fault 70 = .ok (.if_icmp .ne 5, 3) := by decide +kernel
theorem dX5_fault_73 : decode cX5_fault 73 = .ok (.iload_n 3, 1) := by decide +kernel
theorem dX5_fault_74 : decode cX5_fault 74 = .ok (.ireturn, 1) := by decide +kernel
theorem dX5_fault_75 : decode cX5_fault 75 = .ok (.iinc 1 1, 3) := by decide +kernel
theorem dX5_fault_78 : decode cX5_fault 78 = .ok (.iload_n 2, 1) := by decide +kernel
theorem dX5_fault_79 : decode cX5_fault 79 = .ok (.iload 4, 2) := by decide +kernel
theorem dX5_fault_81 : decode cX5_fault 81 = .ok (.iconst 2, 1) := by decide +kernel
theorem dX5_fault_82 : decode cX5_fault 82 = .ok (.if_icmp .ne 7, 3) := by decide +kernel
theorem dX5_fault_85 : decode cX5_fault 85 = .ok (.iconst 1, 1) := by decide +kernel
theorem dX5_fault_86 : decode cX5_fault 86 = .ok (.goto 4, 3) := by decide +kernel
theorem dX5_fault_89 : decode cX5_fault 89 = .ok (.iconst 0, 1) := by decide +kernel
theorem dX5_fault_90 : decode cX5_fault 90 = .ok (.iadd, 1) := by decide +kernel
theorem dX5_fault_91 : decode cX5_fault 91 = .ok (.istore_n 2, 1) := by decide +kernel
theorem dX5_fault_92 : decode cX5_fault 92 = .ok (.iinc 3 1, 3) := by decide +kernel
theorem dX5_fault_95 : decode cX5_fault 95 = .ok (.goto (-89), 3) := by decide +kernel
theorem dX5_fault_98 : decode cX5_fault 98 = .ok (.aload_n 0, 1) := by decide +kernel
theorem dX5_fault_99 : decode cX5_fault 99 = .ok (.getfield 182, 3) := by decide +kernel
theorem dX5_fault_102 : decode cX5_fault 102 = .ok (.iconst 2, 1) := by decide +kernel
theorem dX5_fault_103 : decode cX5_fault 103 = .ok (.irem, 1) := by decide +kernel
theorem dX5_fault_104 : decode cX5_fault 104 = .ok (.iconst 1, 1) := by decide +kernel
theorem dX5_fault_105 : decode cX5_fault 105 = .ok (.if_icmp .eq 13, 3) := by decide +kernel
theorem dX5_fault_108 : decode cX5_fault 108 = .ok (.iload_n 1, 1) := by decide +kernel
theorem dX5_fault_109 : decode cX5_fault 109 = .ok (.iconst 4, 1) := by decide +kernel
theorem dX5_fault_110 : decode cX5_fault 110 = .ok (.if_icmp .lt 8, 3) := by decide +kernel
theorem dX5_fault_113 : decode cX5_fault 113 = .ok (.iload_n 2, 1) := by decide +kernel
theorem dX5_fault_114 : decode cX5_fault 114 = .ok (.iconst 2, 1) := by decide +kernel
theorem dX5_fault_115 : decode cX5_fault 115 = .ok (.if_icmp .ge 10, 3) := by decide +kernel
theorem dX5_fault_118 : decode cX5_fault 118 = .ok (.aload_n 0, 1) := by decide +kernel
theorem dX5_fault_119 : decode cX5_fault 119 = .ok (.getfield 182, 3) := by decide +kernel
theorem dX5_fault_122 : decode cX5_fault 122 = .ok (.goto 4, 3) := by decide +kernel
theorem dX5_fault_125 : decode cX5_fault 125 = .ok (.iconst (-1), 1) := by decide +kernel
theorem dX5_fault_126 : decode cX5_fault 126 = .ok (.ireturn, 1) := by decide +kernel
set_option maxRecDepth 20000 in
theorem ggX5_parse_X5_fault : GoodIn wsX5_parse wsX5_fault := goodIn_r _ [8, 1, 2, 9, 10, 7, 11, 12, 13, 14, 34, 35, 36, 37, 38, 39, 40, 41] (by decide +kernel) (by decide +kernel)
set_option maxRecDepth 20000 in
theorem gX5_parse_X5_fault : GoodIn wsX5_parse (wsV RX5 188 RX5 yX5_fault wsX5_fault) := goodIn_app (goodIn_of _ (by decide +kernel)) ggX5_parse_X5_fault
set_option maxRecDepth 20000 in
theorem ggX5_parse_X5_tells : GoodIn wsX5_parse wsX5_tells := goodIn_r _ [18, 19, 34, 35, 36, 37, 38, 39, 40, 41] (by decide +kernel) (by decide +kernel)
set_option maxRecDepth 20000 in
theorem gX5_parse_X5_tells : GoodIn wsX5_parse (wsV RX5 40 RX5 yX5_tells wsX5_tells) := goodIn_app (goodIn_of _ (by decide +kernel)) ggX5_parse_X5_tells
set_option maxRecDepth 20000 in
theorem ggX5_parse_X5_saves : GoodIn wsX5_parse wsX5_saves := goodIn_r _ [23, 24, 25, 3, 34, 35, 36, 37, 38, 39, 40, 41] (by decide +kernel) (by decide +kernel)
set_option maxRecDepth 20000 in
theorem gX5_parse_X5_saves : GoodIn wsX5_parse (wsV RX5 74 RX5 yX5_saves wsX5_saves) := goodIn_app (goodIn_of _ (by decide +kernel)) ggX5_parse_X5_saves
set_option maxRecDepth 20000 in
theorem ggX5_parse_X5_begins : GoodIn wsX5_parse wsX5_begins := goodIn_r _ [29, 3, 9, 10, 7, 11, 34, 35, 36, 37, 38, 39, 40, 41] (by decide +kernel) (by decide +kernel)
set_option maxRecDepth 20000 in
theorem gX5_parse_X5_begins : GoodIn wsX5_parse (wsV RX5 22 RX5 yX5_begins wsX5_begins) := goodIn_app (goodIn_of _ (by decide +kernel)) ggX5_parse_X5_begins
set_option maxRecDepth 20000 in
theorem ggX5_parse_X5_kindBy : GoodIn wsX5_parse wsX5_kindBy := goodIn_r _ [14] (by decide +kernel) (by decide +kernel)
set_option maxRecDepth 20000 in
theorem gX5_parse_X5_kindBy : GoodIn wsX5_parse (va_wsS RX5 185 yX5_kindBy wsX5_kindBy) := goodIn_app (goodIn_of _ (by decide +kernel)) ggX5_parse_X5_kindBy
set_option maxRecDepth 20000 in
theorem ggX5_parse_X5_cell0 : GoodIn wsX5_parse wsX5_cell0 := goodIn_r _ [33, 3, 34, 35, 36, 37, 38, 39, 40, 41] (by decide +kernel) (by decide +kernel)
set_option maxRecDepth 20000 in
theorem gX5_parse_X5_cell0 : GoodIn wsX5_parse (wsV RX5 25 RX5 yX5_cell0 wsX5_cell0) := goodIn_app (goodIn_of _ (by decide +kernel)) ggX5_parse_X5_cell0
theorem dX5_parse_0 : decode cX5_parse 0 = .ok (.aload_n 0, 1) := by decide +kernel
theorem dX5_parse_1 : decode cX5_parse 1 = .ok (.invokevirtual 188, 3) := by decide +kernel
theorem dX5_parse_4 : decode cX5_parse 4 = .ok (.istore_n 1, 1) := by decide +kernel
theorem dX5_parse_5 : decode cX5_parse 5 = .ok (.iload_n 1, 1) := by decide +kernel
theorem dX5_parse_6 : decode cX5_parse 6 = .ok (.iconst (-1), 1) := by decide +kernel
theorem dX5_parse_7 : decode cX5_parse 7 = .ok (.if_icmp .eq 12, 3) := by decide +kernel
theorem dX5_parse_10 : decode cX5_parse 10 = .ok (.aload_n 0, 1) := by decide +kernel
theorem dX5_parse_11 : decode cX5_parse 11 = .ok (.bipush (-10), 2) := by decide +kernel
theorem dX5_parse_13 : decode cX5_parse 13 = .ok (.iload_n 1, 1) := by decide +kernel
theorem dX5_parse_14 : decode cX5_parse 14 = .ok (.isub, 1) := by decide +kernel
theorem dX5_parse_15 : decode cX5_parse 15 = .ok (.invokevirtual 40, 3) := by decide +kernel
theorem dX5_parse_18 : decode cX5_parse 18 = .ok (.ireturn, 1) := by decide +kernel
theorem dX5_parse_19 : decode cX5_parse 19 = .ok (.aload_n 0, 1) := by decide +kernel
theorem dX5_parse_20 : decode cX5_parse 20 = .ok (.invokevirtual 74, 3) := by decide +kernel
theorem dX5_parse_23 : decode cX5_parse 23 = .ok (.aload_n 0, 1) := by decide +kernel
theorem dX5_parse_24 : decode cX5_parse 24 = .ok (.invokevirtual 22, 3) := by decide +kernel
theorem dX5_parse_27 : decode cX5_parse 27 = .ok (.iconst 0, 1) := by decide +kernel
theorem dX5_parse_28 : decode cX5_parse 28 = .ok (.istore_n 2, 1) := by decide +kernel
theorem dX5_parse_29 : decode cX5_parse 29 = .ok (.iload_n 2, 1) := by decide +kernel
theorem dX5_parse_30 : decode cX5_parse 30 = .ok (.aload_n 0, 1) := by decide +kernel
theorem dX5_parse_31 : decode cX5_parse 31 = .ok (.getfield 182, 3) := by decide +kernel
theorem dX5_parse_34 : decode cX5_parse 34 = .ok (.if_icmp .ge 33, 3) := by decide +kernel
theorem dX5_parse_37 : decode cX5_parse 37 = .ok (.aload_n 0, 1) := by decide +kernel
theorem dX5_parse_38 : decode cX5_parse 38 = .ok (.aload_n 0, 1) := by decide +kernel
theorem dX5_parse_39 : decode cX5_parse 39 = .ok (.getfield 19, 3) := by decide +kernel
theorem dX5_parse_42 : decode cX5_parse 42 = .ok (.iload_n 2, 1) := by decide +kernel
theorem dX5_parse_43 : decode cX5_parse 43 = .ok (.iaload, 1) := by decide +kernel
theorem dX5_parse_44 : decode cX5_parse 44 = .ok (.bipush 48, 2) := by decide +kernel
theorem dX5_parse_46 : decode cX5_parse 46 = .ok (.isub, 1) := by decide +kernel
theorem dX5_parse_47 : decode cX5_parse 47 = .ok (.aload_n 0, 1) := by decide +kernel
theorem dX5_parse_48 : decode cX5_parse 48 = .ok (.getfield 19, 3) := by decide +kernel
theorem dX5_parse_51 : decode cX5_parse 51 = .ok (.iload_n 2, 1) := by decide +kernel
theorem dX5_parse_52 : decode cX5_parse 52 = .ok (.iconst 1, 1) := by decide +kernel
theorem dX5_parse_53 : decode cX5_parse 53 = .ok (.iadd, 1) := by decide +kernel
theorem dX5_parse_54 : decode cX5_parse 54 = .ok (.iaload, 1) := by decide +kernel
theorem dX5_parse_55 : decode cX5_parse 55 = .ok (.invokestatic 185, 3) := by decide +kernel
theorem dX5_parse_58 : decode cX5_parse 58 = .ok (.invokevirtual 25, 3) := by decide +kernel
theorem dX5_parse_61 : decode cX5_parse 61 = .ok (.iinc 2 2, 3) := by decide +kernel
theorem dX5_parse_64 : decode cX5_parse 64 = .ok (.goto (-35), 3) := by decide +kernel
theorem dX5_parse_67 : decode cX5_parse 67 = .ok (.aload_n 0, 1) := by decide +kernel
theorem dX5_parse_68 : decode cX5_parse 68 = .ok (.aload_n 0, 1) := by decide +kernel
theorem dX5_parse_69 : decode cX5_parse 69 = .ok (.getfield 7, 3) := by decide +kernel
theorem dX5_parse_72 : decode cX5_parse 72 = .ok (.iconst 0, 1) := by decide +kernel
theorem dX5_parse_73 : decode cX5_parse 73 = .ok (.iaload, 1) := by decide +kernel
theorem dX5_parse_74 : decode cX5_parse 74 = .ok (.invokevirtual 40, 3) := by decide +kernel
theorem dX5_parse_77 : decode cX5_parse 77 = .ok (.ireturn, 1) := by decide +kernel
theorem dX5_mix_0 : decode cX5_mix 0 = .ok (.aload_n 0, 1) := by decide +kernel
theorem dX5_mix_1 : decode cX5_mix 1 = .ok (.ldc2_w 191, 3) := by decide +kernel
theorem dX5_mix_4 : decode cX5_mix 4 = .ok (.aload_n 0, 1) := by decide +kernel
theorem dX5_mix_5 : decode cX5_mix 5 = .ok (.getfield 193, 3) := by decide +kernel
theorem dX5_mix_8 : decode cX5_mix 8 = .ok (.lmul, 1) := by decide +kernel
theorem dX5_mix_9 : decode cX5_mix 9 = .ok (.iload_n 1, 1) := by decide +kernel
theorem dX5_mix_10 : decode cX5_mix 10 = .ok (.i2l, 1) := by decide +kernel
theorem dX5_mix_11 : decode cX5_mix 11 = .ok (.ladd, 1) := by decide +kernel
theorem dX5_mix_12 : decode cX5_mix 12 = .ok (.putfield 193, 3) := by decide +kernel
theorem dX5_mix_15 : decode cX5_mix 15 = .ok (.return_, 1) := by decide +kernel
set_option maxRecDepth 20000 in
theorem ggX5_mixTrain_X5_trainOf : GoodIn wsX5_mixTrain wsX5_trainOf := goodIn_r _ [5, 6, 7, 8, 4, 9, 10, 11, 12, 13, 14, 15, 16, 17, 18, 61, 62, 63, 64, 65, 66, 67, 68] (by decide +kernel) (by decide +kernel)
set_option maxRecDepth 20000 in
theorem gX5_mixTrain_X5_trainOf : GoodIn wsX5_mixTrain (wsV RX5 142 RX5 yX5_trainOf wsX5_trainOf) := goodIn_app (goodIn_of _ (by decide +kernel)) ggX5_mixTrain_X5_trainOf
set_option maxRecDepth 20000 in
theorem ggX5_mixTrain_X5_mix : GoodIn wsX5_mixTrain wsX5_mix := goodIn_r _ [22, 23, 24, 61, 62, 63, 64, 65, 66, 67, 68] (by decide +kernel) (by decide +kernel)
set_option maxRecDepth 20000 in
theorem gX5_mixTrain_X5_mix : GoodIn wsX5_mixTrain (wsV RX5 197 RX5 yX5_mix wsX5_mix) := goodIn_app (goodIn_of _ (by decide +kernel)) ggX5_mixTrain_X5_mix
set_option maxRecDepth 20000 in
theorem ggX5_mixTrain_X5_whyOf : GoodIn wsX5_mixTrain wsX5_whyOf := goodIn_r _ [28, 6, 7, 8, 4, 9, 10, 29, 30, 31, 32, 11, 12, 13, 14, 33, 34, 35, 36, 37, 38, 39, 40, 41, 42, 43, 44, 45, 46, 47, 48, 49, 50, 51, 52, 53, 54, 55, 56, 57, 58, 59, 60, 61, 62, 63, 64, 65, 66, 67, 68] (by decide +kernel) (by decide +kernel)
set_option maxRecDepth 20000 in
theorem gX5_mixTrain_X5_whyOf : GoodIn wsX5_mixTrain (wsV RX5 167 RX5 yX5_whyOf wsX5_whyOf) := goodIn_app (goodIn_of _ (by decide +kernel)) ggX5_mixTrain_X5_whyOf
theorem dX5_mixTrain_0 : decode cX5_mixTrain 0 = .ok (.iconst 0, 1) := by decide +kernel
theorem dX5_mixTrain_1 : decode cX5_mixTrain 1 = .ok (.istore_n 2, 1) := by decide +kernel
theorem dX5_mixTrain_2 : decode cX5_mixTrain 2 = .ok (.iload_n 2, 1) := by decide +kernel
theorem dX5_mixTrain_3 : decode cX5_mixTrain 3 = .ok (.bipush 10, 2) := by decide +kernel
theorem dX5_mixTrain_5 : decode cX5_mixTrain 5 = .ok (.if_icmp .ge 19, 3) := by decide +kernel
theorem dX5_mixTrain_8 : decode cX5_mixTrain 8 = .ok (.aload_n 0, 1) := by decide +kernel
theorem dX5_mixTrain_9 : decode cX5_mixTrain 9 = .ok (.aload_n 0, 1) := by decide +kernel
theorem dX5_mixTrain_10 : decode cX5_mixTrain 10 = .ok (.iload_n 1, 1) := by decide +kernel
theorem dX5_mixTrain_11 : decode cX5_mixTrain 11 = .ok (.iload_n 2, 1) := by decide +kernel
theorem dX5_mixTrain_12 : decode cX5_mixTrain 12 = .ok (.invokevirtual 142, 3) := by decide +kernel
theorem dX5_mixTrain_15 : decode cX5_mixTrain 15 = .ok (.invokevirtual 197, 3) := by decide +kernel
theorem dX5_mixTrain_18 : decode cX5_mixTrain 18 = .ok (.iinc 2 1, 3) := by decide +kernel
theorem dX5_mixTrain_21 : decode cX5_mixTrain 21 = .ok (.goto (-19), 3) := by decide +kernel
theorem dX5_mixTrain_24 : decode cX5_mixTrain 24 = .ok (.aload_n 0, 1) := by decide +kernel
theorem dX5_mixTrain_25 : decode cX5_mixTrain 25 = .ok (.aload_n 0, 1) := by decide +kernel
theorem dX5_mixTrain_26 : decode cX5_mixTrain 26 = .ok (.iload_n 1, 1) := by decide +kernel
theorem dX5_mixTrain_27 : decode cX5_mixTrain 27 = .ok (.invokevirtual 167, 3) := by decide +kernel
theorem dX5_mixTrain_30 : decode cX5_mixTrain 30 = .ok (.invokevirtual 197, 3) := by decide +kernel
theorem dX5_mixTrain_33 : decode cX5_mixTrain 33 = .ok (.return_, 1) := by decide +kernel
set_option maxRecDepth 20000 in
theorem ggX5_digest_X5_mix : GoodIn wsX5_digest wsX5_mix := goodIn_r _ [11, 12, 3, 161, 162, 163, 164, 165, 166, 167, 168] (by decide +kernel) (by decide +kernel)
set_option maxRecDepth 20000 in
theorem gX5_digest_X5_mix : GoodIn wsX5_digest (wsV RX5 197 RX5 yX5_mix wsX5_mix) := goodIn_app (goodIn_of _ (by decide +kernel)) ggX5_digest_X5_mix
set_option maxRecDepth 20000 in
theorem ggX5_digest_X5_valueOf : GoodIn wsX5_digest wsX5_valueOf := goodIn_r _ [16, 5, 17, 18, 19, 10, 20, 21, 22, 23, 24, 25, 26, 27, 28, 161, 162, 163, 164, 165, 166, 167, 168] (by decide +kernel) (by decide +kernel)
set_option maxRecDepth 20000 in
theorem gX5_digest_X5_valueOf : GoodIn wsX5_digest (wsV RX5 164 RX5 yX5_valueOf wsX5_valueOf) := goodIn_app (goodIn_of _ (by decide +kernel)) ggX5_digest_X5_valueOf
set_option maxRecDepth 20000 in
theorem ggX5_digest_X5_cellOf : GoodIn wsX5_digest wsX5_cellOf := goodIn_r _ [32, 5, 33, 34, 35, 10, 36, 37, 38, 39, 40, 21, 22, 23, 24, 161, 162, 163, 164, 165, 166, 167, 168] (by decide +kernel) (by decide +kernel)
set_option maxRecDepth 20000 in
theorem gX5_digest_X5_cellOf : GoodIn wsX5_digest (wsV RX5 148 RX5 yX5_cellOf wsX5_cellOf) := goodIn_app (goodIn_of _ (by decide +kernel)) ggX5_digest_X5_cellOf
set_option maxRecDepth 20000 in
theorem ggX5_digest_X5_blockOf : GoodIn wsX5_digest wsX5_blockOf := goodIn_r _ [44, 5, 45, 46, 47, 10, 48, 49, 50, 51, 52, 53, 54, 55, 56, 57, 58, 59, 60, 33, 34, 35, 36, 61, 62, 63, 64, 21, 22, 23, 24, 161, 162, 163, 164, 165, 166, 167, 168] (by decide +kernel) (by decide +kernel)
set_option maxRecDepth 20000 in
theorem gX5_digest_X5_blockOf : GoodIn wsX5_digest (wsV RX5 154 RX5 yX5_blockOf wsX5_blockOf) := goodIn_app (goodIn_of _ (by decide +kernel)) ggX5_digest_X5_blockOf
set_option maxRecDepth 20000 in
theorem ggX5_digest_X5_mixTrain : GoodIn wsX5_digest wsX5_mixTrain := goodIn_r _ [68, 69, 70, 71, 10, 72, 21, 22, 23, 24, 5, 33, 34, 35, 36, 73, 74, 75, 76, 7, 8, 9, 11, 12, 3, 77, 78, 79, 80, 81, 82, 83, 84, 85, 86, 87, 88, 89, 90, 91, 92, 61, 62, 63, 64, 45, 46, 47, 48, 49, 50, 51, 52, 93, 94, 95, 96, 97, 98, 99, 100, 161, 162, 163, 164, 165, 166, 167, 168] (by decide +kernel) (by decide +kernel)
set_option maxRecDepth 20000 in
theorem gX5_digest_X5_mixTrain : GoodIn wsX5_digest (wsV RX5 202 RX5 yX5_mixTrain wsX5_mixTrain) := goodIn_app (goodIn_of _ (by decide +kernel)) ggX5_digest_X5_mixTrain
set_option maxRecDepth 20000 in
theorem ggX5_digest_X5_toValley : GoodIn wsX5_digest wsX5_toValley := goodIn_r _ [104, 105, 106, 107, 10, 108, 109, 5, 17, 18, 19, 20, 21, 22, 23, 24, 110, 111, 112, 113, 114, 115, 116, 117, 118, 119, 120, 121, 81, 82, 83, 84, 33, 34, 35, 36, 85, 86, 87, 88, 89, 90, 91, 92, 61, 62, 63, 64, 45, 46, 47, 48, 49, 50, 51, 52, 93, 94, 95, 96, 97, 98, 99, 100, 122, 123, 124, 125, 126, 127, 128, 129, 130, 131, 132, 133, 134, 135, 136, 53, 54, 55, 56, 73, 74, 75, 76, 137, 138, 139, 140, 141, 142, 143, 144, 145, 146, 147, 148, 149, 150, 151, 152, 153, 154, 155, 156, 157, 158, 159, 160, 161, 162, 163, 164, 165, 166, 167, 168] (by decide +kernel) (by decide +kernel)
set_option maxRecDepth 20000 in
theorem gX5_digest_X5_toValley : GoodIn wsX5_digest (wsV RX5 176 RX5 yX5_toValley wsX5_toValley) := goodIn_app (goodIn_of _ (by decide +kernel)) ggX5_digest_X5_toValley
theorem dX5_digest_0 : decode cX5_digest 0 = .ok (.aload_n 0, 1) := by decide +kernel
theorem dX5_digest_1 : decode cX5_digest 1 = .ok (.iconst 0, 1) := by decide +kernel
theorem dX5_digest_2 : decode cX5_digest 2 = .ok (.putfield 29, 3) := by decide +kernel
theorem dX5_digest_5 : decode cX5_digest 5 = .ok (.aload_n 0, 1) := by decide +kernel
theorem dX5_digest_6 : decode cX5_digest 6 = .ok (.ldc2_w 200, 3) := by decide +kernel
theorem dX5_digest_9 : decode cX5_digest 9 = .ok (.putfield 193, 3) := by decide +kernel
theorem dX5_digest_12 : decode cX5_digest 12 = .ok (.aload_n 0, 1) := by decide +kernel
theorem dX5_digest_13 : decode cX5_digest 13 = .ok (.aload_n 0, 1) := by decide +kernel
theorem dX5_digest_14 : decode cX5_digest 14 = .ok (.getfield 182, 3) := by decide +kernel
theorem dX5_digest_17 : decode cX5_digest 17 = .ok (.invokevirtual 197, 3) := by decide +kernel
theorem dX5_digest_20 : decode cX5_digest 20 = .ok (.iconst 0, 1) := by decide +kernel
theorem dX5_digest_21 : decode cX5_digest 21 = .ok (.istore_n 1, 1) := by decide +kernel
theorem dX5_digest_22 : decode cX5_digest 22 = .ok (.iload_n 1, 1) := by decide +kernel
theorem dX5_digest_23 : decode cX5_digest 23 = .ok (.bipush 12, 2) := by decide +kernel
theorem dX5_digest_25 : decode cX5_digest 25 = .ok (.if_icmp .ge 18, 3) := by decide +kernel
theorem dX5_digest_28 : decode cX5_digest 28 = .ok (.aload_n 0, 1) := by decide +kernel
theorem dX5_digest_29 : decode cX5_digest 29 = .ok (.aload_n 0, 1) := by decide +kernel
theorem dX5_digest_30 : decode cX5_digest 30 = .ok (.iload_n 1, 1) := by decide +kernel
theorem dX5_digest_31 : decode cX5_digest 31 = .ok (.invokevirtual 164, 3) := by decide +kernel
theorem dX5_digest_34 : decode cX5_digest 34 = .ok (.invokevirtual 197, 3) := by decide +kernel
theorem dX5_digest_37 : decode cX5_digest 37 = .ok (.iinc 1 1, 3) := by decide +kernel
theorem dX5_digest_40 : decode cX5_digest 40 = .ok (.goto (-18), 3) := by decide +kernel
theorem dX5_digest_43 : decode cX5_digest 43 = .ok (.iconst 0, 1) := by decide +kernel
theorem dX5_digest_44 : decode cX5_digest 44 = .ok (.istore_n 1, 1) := by decide +kernel
theorem dX5_digest_45 : decode cX5_digest 45 = .ok (.iload_n 1, 1) := by decide +kernel
theorem dX5_digest_46 : decode cX5_digest 46 = .ok (.iconst 4, 1) := by decide +kernel
theorem dX5_digest_47 : decode cX5_digest 47 = .ok (.aload_n 0, 1) := by decide +kernel
theorem dX5_digest_48 : decode cX5_digest 48 = .ok (.getfield 7, 3) := by decide +kernel
theorem dX5_digest_51 : decode cX5_digest 51 = .ok (.iconst 0, 1) := by decide +kernel
theorem dX5_digest_52 : decode cX5_digest 52 = .ok (.iaload, 1) := by decide +kernel
theorem dX5_digest_53 : decode cX5_digest 53 = .ok (.imul, 1) := by decide +kernel
theorem dX5_digest_54 : decode cX5_digest 54 = .ok (.if_icmp .ge 23, 3) := by decide +kernel
theorem dX5_digest_57 : decode cX5_digest 57 = .ok (.aload_n 0, 1) := by decide +kernel
theorem dX5_digest_58 : decode cX5_digest 58 = .ok (.aload_n 0, 1) := by decide +kernel
theorem dX5_digest_59 : decode cX5_digest 59 = .ok (.iload_n 1, 1) := by decide +kernel
theorem dX5_digest_60 : decode cX5_digest 60 = .ok (.iconst 4, 1) := by decide +kernel
theorem dX5_digest_61 : decode cX5_digest 61 = .ok (.idiv, 1) := by decide +kernel
theorem dX5_digest_62 : decode cX5_digest 62 = .ok (.iload_n 1, 1) := by decide +kernel
theorem dX5_digest_63 : decode cX5_digest 63 = .ok (.iconst 4, 1) := by decide +kernel
theorem dX5_digest_64 : decode cX5_digest 64 = .ok (.irem, 1) := by decide +kernel
theorem dX5_digest_65 : decode cX5_digest 65 = .ok (.invokevirtual 148, 3) := by decide +kernel
theorem dX5_digest_68 : decode cX5_digest 68 = .ok (.invokevirtual 197, 3) := by decide +kernel
theorem dX5_digest_71 : decode cX5_digest 71 = .ok (.iinc 1 1, 3) := by decide +kernel
theorem dX5_digest_74 : decode cX5_digest 74 = .ok (.goto (-29), 3) := by decide +kernel
theorem dX5_digest_77 : decode cX5_digest 77 = .ok (.iconst 0, 1) := by decide +kernel
theorem dX5_digest_78 : decode cX5_digest 78 = .ok (.istore_n 1, 1) := by decide +kernel
theorem dX5_digest_79 : decode cX5_digest 79 = .ok (.iload_n 1, 1) := by decide +kernel
theorem dX5_digest_80 : decode cX5_digest 80 = .ok (.iconst 5, 1) := by decide +kernel
theorem dX5_digest_81 : decode cX5_digest 81 = .ok (.aload_n 0, 1) := by decide +kernel
theorem dX5_digest_82 : decode cX5_digest 82 = .ok (.getfield 7, 3) := by decide +kernel
theorem dX5_digest_85 : decode cX5_digest 85 = .ok (.iconst 1, 1) := by decide +kernel
theorem dX5_digest_86 : decode cX5_digest 86 = .ok (.iaload, 1) := by decide +kernel
theorem dX5_digest_87 : decode cX5_digest 87 = .ok (.imul, 1) := by decide +kernel
theorem dX5_digest_88 : decode cX5_digest 88 = .ok (.if_icmp .ge 23, 3) := by decide +kernel
theorem dX5_digest_91 : decode cX5_digest 91 = .ok (.aload_n 0, 1) := by decide +kernel
theorem dX5_digest_92 : decode cX5_digest 92 = .ok (.aload_n 0, 1) := by decide +kernel
theorem dX5_digest_93 : decode cX5_digest 93 = .ok (.iload_n 1, 1) := by decide +kernel
theorem dX5_digest_94 : decode cX5_digest 94 = .ok (.iconst 5, 1) := by decide +kernel
theorem dX5_digest_95 : decode cX5_digest 95 = .ok (.idiv, 1) := by decide +kernel
theorem dX5_digest_96 : decode cX5_digest 96 = .ok (.iload_n 1, 1) := by decide +kernel
theorem dX5_digest_97 : decode cX5_digest 97 = .ok (.iconst 5, 1) := by decide +kernel
theorem dX5_digest_98 : decode cX5_digest 98 = .ok (.irem, 1) := by decide +kernel
theorem dX5_digest_99 : decode cX5_digest 99 = .ok (.invokevirtual 154, 3) := by decide +kernel
theorem dX5_digest_102 : decode cX5_digest 102 = .ok (.invokevirtual 197, 3) := by decide +kernel
theorem dX5_digest_105 : decode cX5_digest 105 = .ok (.iinc 1 1, 3) := by decide +kernel
theorem dX5_digest_108 : decode cX5_digest 108 = .ok (.goto (-29), 3) := by decide +kernel
theorem dX5_digest_111 : decode cX5_digest 111 = .ok (.iconst 0, 1) := by decide +kernel
theorem dX5_digest_112 : decode cX5_digest 112 = .ok (.istore_n 1, 1) := by decide +kernel
theorem dX5_digest_113 : decode cX5_digest 113 = .ok (.iload_n 1, 1) := by decide +kernel
theorem dX5_digest_114 : decode cX5_digest 114 = .ok (.aload_n 0, 1) := by decide +kernel
theorem dX5_digest_115 : decode cX5_digest 115 = .ok (.getfield 7, 3) := by decide +kernel
theorem dX5_digest_118 : decode cX5_digest 118 = .ok (.iconst 2, 1) := by decide +kernel
theorem dX5_digest_119 : decode cX5_digest 119 = .ok (.iaload, 1) := by decide +kernel
theorem dX5_digest_120 : decode cX5_digest 120 = .ok (.if_icmp .ge 14, 3) := by decide +kernel
theorem dX5_digest_123 : decode cX5_digest 123 = .ok (.aload_n 0, 1) := by decide +kernel
theorem dX5_digest_124 : decode cX5_digest 124 = .ok (.iload_n 1, 1) := by decide +kernel
theorem dX5_digest_125 : decode cX5_digest 125 = .ok (.invokevirtual 202, 3) := by decide +kernel
theorem dX5_digest_128 : decode cX5_digest 128 = .ok (.iinc 1 1, 3) := by decide +kernel
theorem dX5_digest_131 : decode cX5_digest 131 = .ok (.goto (-18), 3) := by decide +kernel
theorem dX5_digest_134 : decode cX5_digest 134 = .ok (.aload_n 0, 1) := by decide +kernel
theorem dX5_digest_135 : decode cX5_digest 135 = .ok (.getfield 7, 3) := by decide +kernel
theorem dX5_digest_138 : decode cX5_digest 138 = .ok (.bipush 10, 2) := by decide +kernel
theorem dX5_digest_140 : decode cX5_digest 140 = .ok (.iaload, 1) := by decide +kernel
theorem dX5_digest_141 : decode cX5_digest 141 = .ok (.iconst 1, 1) := by decide +kernel
theorem dX5_digest_142 : decode cX5_digest 142 = .ok (.isub, 1) := by decide +kernel
theorem dX5_digest_143 : decode cX5_digest 143 = .ok (.istore_n 1, 1) := by decide +kernel
theorem dX5_digest_144 : decode cX5_digest 144 = .ok (.iload_n 1, 1) := by decide +kernel
theorem dX5_digest_145 : decode cX5_digest 145 = .ok (.ifCond .lt 41, 3) := by decide +kernel
theorem dX5_digest_148 : decode cX5_digest 148 = .ok (.aload_n 0, 1) := by decide +kernel
theorem dX5_digest_149 : decode cX5_digest 149 = .ok (.aload_n 0, 1) := by decide +kernel
theorem dX5_digest_150 : decode cX5_digest 150 = .ok (.getfield 7, 3) := by decide +kernel
theorem dX5_digest_153 : decode cX5_digest 153 = .ok (.bipush 111, 2) := by decide +kernel
theorem dX5_digest_155 : decode cX5_digest 155 = .ok (.iconst 2, 1) := by decide +kernel
theorem dX5_digest_156 : decode cX5_digest 156 = .ok (.iload_n 1, 1) := by decide +kernel
theorem dX5_digest_157 : decode cX5_digest 157 = .ok (.imul, 1) := by decide +kernel
theorem dX5_digest_158 : decode cX5_digest 158 = .ok (.iadd, 1) := by decide +kernel
theorem dX5_digest_159 : decode cX5_digest 159 = .ok (.iaload, 1) := by decide +kernel
theorem dX5_digest_160 : decode cX5_digest 160 = .ok (.invokevirtual 197, 3) := by decide +kernel
theorem dX5_digest_163 : decode cX5_digest 163 = .ok (.aload_n 0, 1) := by decide +kernel
theorem dX5_digest_164 : decode cX5_digest 164 = .ok (.aload_n 0, 1) := by decide +kernel
theorem dX5_digest_165 : decode cX5_digest 165 = .ok (.getfield 7, 3) := by decide +kernel
theorem dX5_digest_168 : decode cX5_digest 168 = .ok (.bipush 111, 2) := by decide +kernel
theorem dX5_digest_170 : decode cX5_digest 170 = .ok (.iconst 2, 1) := by decide +kernel
theorem dX5_digest_171 : decode cX5_digest 171 = .ok (.iload_n 1, 1) := by decide +kernel
theorem dX5_digest_172 : decode cX5_digest 172 = .ok (.imul, 1) := by decide +kernel
theorem dX5_digest_173 : decode cX5_digest 173 = .ok (.iadd, 1) := by decide +kernel
theorem dX5_digest_174 : decode cX5_digest 174 = .ok (.iconst 1, 1) := by decide +kernel
theorem dX5_digest_175 : decode cX5_digest 175 = .ok (.iadd, 1) := by decide +kernel
theorem dX5_digest_176 : decode cX5_digest 176 = .ok (.iaload, 1) := by decide +kernel
theorem dX5_digest_177 : decode cX5_digest 177 = .ok (.invokevirtual 197, 3) := by decide +kernel
theorem dX5_digest_180 : decode cX5_digest 180 = .ok (.iinc 1 (-1), 3) := by decide +kernel
theorem dX5_digest_183 : decode cX5_digest 183 = .ok (.goto (-39), 3) := by decide +kernel
theorem dX5_digest_186 : decode cX5_digest 186 = .ok (.aload_n 0, 1) := by decide +kernel
theorem dX5_digest_187 : decode cX5_digest 187 = .ok (.aload_n 0, 1) := by decide +kernel
theorem dX5_digest_188 : decode cX5_digest 188 = .ok (.sipush 2000, 3) := by decide +kernel
theorem dX5_digest_191 : decode cX5_digest 191 = .ok (.invokevirtual 176, 3) := by decide +kernel
theorem dX5_digest_194 : decode cX5_digest 194 = .ok (.invokevirtual 197, 3) := by decide +kernel
theorem dX5_digest_197 : decode cX5_digest 197 = .ok (.aload_n 0, 1) := by decide +kernel
theorem dX5_digest_198 : decode cX5_digest 198 = .ok (.aload_n 0, 1) := by decide +kernel
theorem dX5_digest_199 : decode cX5_digest 199 = .ok (.getfield 33, 3) := by decide +kernel
theorem dX5_digest_202 : decode cX5_digest 202 = .ok (.invokevirtual 197, 3) := by decide +kernel
theorem dX5_digest_205 : decode cX5_digest 205 = .ok (.aload_n 0, 1) := by decide +kernel
theorem dX5_digest_206 : decode cX5_digest 206 = .ok (.getfield 193, 3) := by decide +kernel
theorem dX5_digest_209 : decode cX5_digest 209 = .ok (.lreturn, 1) := by decide +kernel
