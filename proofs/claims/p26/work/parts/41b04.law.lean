set_option maxRecDepth 20000 in
theorem ggL_refusesPlaces_L_heighten : GoodIn wsL_refusesPlaces wsL_heighten := goodIn_ca (goodIn_ca (goodIn_r _ [170, 53, 5, 171, 172, 173, 9, 174, 11, 12, 13, 14, 175, 176, 177, 178, 179, 65, 66, 15, 88, 89, 90, 91, 92, 93, 94, 95, 96, 24, 97, 71, 37, 98, 99, 100, 101, 102, 103, 27, 104, 36, 105, 26, 106, 107, 108, 42, 109, 45, 110, 111, 112, 76, 44, 77, 113, 114, 115, 116, 117, 118, 119, 120, 121, 122, 123, 124, 125, 350, 351, 352, 353, 354, 355, 356, 357, 358, 359, 360, 361, 362, 363, 364, 365, 366, 367, 368, 369, 370, 371, 372, 373, 374, 375, 376, 377] (by decide +kernel) (by decide +kernel)) (goodIn_sub (fun _ h => List.mem_cons_of_mem _ (List.mem_append_left _ (List.mem_append_left _ (List.mem_append_right _ h)))) (by decide +kernel))) (goodIn_sub (fun _ h => List.mem_cons_of_mem _ (List.mem_append_right _ h)) (by decide +kernel))
set_option maxRecDepth 20000 in
theorem gL_refusesPlaces_L_heighten : GoodIn wsL_refusesPlaces (va_wsS RL 121 yL_heighten wsL_heighten) := goodIn_app (goodIn_of _ (by decide +kernel)) ggL_refusesPlaces_L_heighten
set_option maxRecDepth 20000 in
theorem ggL_refusesPlaces_L_trainBy : GoodIn wsL_refusesPlaces wsL_trainBy := goodIn_ca (goodIn_ca (goodIn_r _ [182, 53, 5, 183, 184, 185, 9, 186, 11, 12, 13, 146, 148, 187, 188, 189, 147, 190, 191, 192, 150, 151, 152, 153, 65, 66, 17, 154, 155, 156, 24, 157, 71, 87, 82, 193, 194, 195, 196, 197, 98, 350, 351, 352, 353, 354, 355, 356, 357, 358, 359, 360, 361, 362, 363, 370, 371, 372, 373, 374, 375, 376, 377, 364, 365, 366, 367, 368, 369] (by decide +kernel) (by decide +kernel)) (goodIn_sub (fun _ h => List.mem_cons_of_mem _ (List.mem_append_left _ (List.mem_append_left _ (List.mem_append_right _ h)))) (by decide +kernel))) (goodIn_sub (fun _ h => List.mem_cons_of_mem _ (List.mem_append_right _ h)) (by decide +kernel))
set_option maxRecDepth 20000 in
theorem gL_refusesPlaces_L_trainBy : GoodIn wsL_refusesPlaces (va_wsS RL 90 yL_trainBy wsL_trainBy) := goodIn_app (goodIn_of _ (by decide +kernel)) ggL_refusesPlaces_L_trainBy
set_option maxRecDepth 20000 in
theorem ggL_refusesPlaces_L_cellBy : GoodIn wsL_refusesPlaces wsL_cellBy := goodIn_ca (goodIn_ca (goodIn_r _ [200, 53, 5, 201, 202, 203, 9, 204, 11, 12, 13, 14, 175, 205, 206, 176, 177, 178, 179, 65, 66, 15, 207, 79, 80, 24, 81, 36, 37, 82, 350, 351, 352, 353, 354, 355, 356, 357, 358, 359, 360, 361, 362, 363, 364, 365, 366, 367, 368, 369, 370, 371, 372, 373, 374, 375, 376, 377] (by decide +kernel) (by decide +kernel)) (goodIn_sub (fun _ h => List.mem_cons_of_mem _ (List.mem_append_left _ (List.mem_append_left _ (List.mem_append_right _ h)))) (by decide +kernel))) (goodIn_sub (fun _ h => List.mem_cons_of_mem _ (List.mem_append_right _ h)) (by decide +kernel))
set_option maxRecDepth 20000 in
theorem gL_refusesPlaces_L_cellBy : GoodIn wsL_refusesPlaces (va_wsS RL 83 yL_cellBy wsL_cellBy) := goodIn_app (goodIn_of _ (by decide +kernel)) ggL_refusesPlaces_L_cellBy
set_option maxRecDepth 20000 in
theorem ggL_refusesPlaces_L_blockBy : GoodIn wsL_refusesPlaces wsL_blockBy := goodIn_ca (goodIn_ca (goodIn_r _ [210, 53, 5, 211, 212, 213, 9, 214, 11, 12, 13, 14, 149, 215, 61, 62, 63, 64, 65, 66, 16, 216, 217, 218, 42, 219, 220, 73, 74, 75, 76, 77, 221, 222, 223, 224, 44, 225, 226, 227, 228, 229, 84, 85, 24, 86, 36, 71, 87, 37, 82, 350, 351, 352, 353, 354, 355, 356, 357, 358, 359, 360, 361, 362, 363, 364, 365, 366, 367, 368, 369, 370, 371, 372, 373, 374, 375, 376, 377] (by decide +kernel) (by decide +kernel)) (goodIn_sub (fun _ h => List.mem_cons_of_mem _ (List.mem_append_left _ (List.mem_append_left _ (List.mem_append_right _ h)))) (by decide +kernel))) (goodIn_sub (fun _ h => List.mem_cons_of_mem _ (List.mem_append_right _ h)) (by decide +kernel))
set_option maxRecDepth 20000 in
theorem gL_refusesPlaces_L_blockBy : GoodIn wsL_refusesPlaces (va_wsS RL 87 yL_blockBy wsL_blockBy) := goodIn_app (goodIn_of _ (by decide +kernel)) ggL_refusesPlaces_L_blockBy
set_option maxRecDepth 20000 in
theorem ggL_refusesPlaces_L_reason : GoodIn wsL_refusesPlaces wsL_reason := goodIn_ca (goodIn_r _ [232, 53, 233, 234, 235, 9, 236, 13, 146, 150, 151, 152, 153, 65, 66, 17, 237, 238, 239, 24, 240, 38, 71, 241, 98, 26, 105, 242, 155, 156, 157, 87, 82, 243, 244, 245, 42, 246, 77, 247, 68, 69, 70, 37, 72, 73, 74, 75, 76, 78, 79, 80, 81, 36, 83, 84, 85, 86, 248, 22, 23, 25, 27, 28, 29, 30, 31, 350, 351, 352, 353, 354, 355, 356, 357, 358, 359, 360, 361, 362, 363, 370, 371, 372, 373, 374, 375, 376, 377, 364, 365, 366, 367, 368, 369] (by decide +kernel) (by decide +kernel)) (goodIn_sub (fun _ h => List.mem_cons_of_mem _ (List.mem_append_right _ h)) (by decide +kernel))
set_option maxRecDepth 20000 in
theorem gL_refusesPlaces_L_reason : GoodIn wsL_refusesPlaces (va_wsS RL 93 yL_reason wsL_reason) := goodIn_app (goodIn_of _ (by decide +kernel)) ggL_refusesPlaces_L_reason
set_option maxRecDepth 20000 in
theorem ggL_refusesPlaces_L_toStation : GoodIn wsL_refusesPlaces wsL_toStation := goodIn_ca (goodIn_r _ [251, 53, 252, 253, 254, 9, 255, 256, 13, 146, 192, 150, 151, 152, 153, 65, 66, 17, 94, 95, 96, 24, 97, 71, 37, 98, 99, 100, 101, 102, 103, 27, 104, 36, 105, 26, 106, 107, 108, 42, 109, 45, 110, 111, 112, 76, 44, 77, 113, 114, 115, 116, 117, 118, 119, 120, 121, 122, 123, 124, 125, 257, 258, 259, 260, 38, 261, 262, 263, 264, 241, 265, 238, 239, 240, 242, 155, 156, 157, 87, 82, 243, 244, 245, 246, 247, 68, 69, 70, 72, 73, 74, 75, 78, 79, 80, 81, 83, 84, 85, 86, 248, 22, 23, 25, 28, 29, 30, 31, 266, 267, 268, 269, 270, 271, 272, 273, 274, 275, 276, 277, 278, 279, 280, 281, 282, 283, 284, 285, 194, 195, 196, 197, 286, 287, 288, 289, 290, 291, 48, 292, 221, 222, 223, 224, 293, 294, 295, 296, 297, 298, 299, 300, 301, 302, 303, 304, 305, 306, 307, 136, 137, 138, 308, 309, 310, 311, 312, 313, 314, 315, 316, 317, 350, 351, 352, 353, 354, 355, 356, 357, 358, 359, 360, 361, 362, 363, 370, 371, 372, 373, 374, 375, 376, 377, 364, 365, 366, 367, 368, 369] (by decide +kernel) (by decide +kernel)) (goodIn_sub (fun _ h => List.mem_cons_of_mem _ (List.mem_append_right _ h)) (by decide +kernel))
set_option maxRecDepth 20000 in
theorem gL_refusesPlaces_L_toStation : GoodIn wsL_refusesPlaces (va_wsS RL 124 yL_toStation wsL_toStation) := goodIn_app (goodIn_of _ (by decide +kernel)) ggL_refusesPlaces_L_toStation
set_option maxRecDepth 20000 in
theorem ggL_refusesPlaces_L_least : GoodIn wsL_refusesPlaces wsL_least := goodIn_ca (goodIn_r _ [320, 53, 321, 322, 323, 9, 324, 13, 14, 19, 176, 177, 178, 179, 65, 66, 15, 325, 326, 327, 42, 328, 329, 330, 331, 332, 44, 111, 333, 287, 288, 289, 45, 290, 291, 48, 292, 221, 222, 223, 224, 334, 309, 310, 311, 350, 351, 352, 353, 354, 355, 356, 357, 358, 359, 360, 361, 362, 363, 364, 365, 366, 367, 368, 369] (by decide +kernel) (by decide +kernel)) (goodIn_sub (fun _ h => List.mem_cons_of_mem _ (List.mem_append_right _ h)) (by decide +kernel))
set_option maxRecDepth 20000 in
theorem gL_refusesPlaces_L_least : GoodIn wsL_refusesPlaces (va_wsS RL 127 yL_least wsL_least) := goodIn_app (goodIn_of _ (by decide +kernel)) ggL_refusesPlaces_L_least
set_option maxRecDepth 20000 in
theorem ggL_refusesPlaces_L_sent : GoodIn wsL_refusesPlaces wsL_sent := goodIn_ca (goodIn_ca (goodIn_r _ [337, 53, 5, 338, 339, 340, 9, 341, 65, 66, 11, 12, 13, 342, 343, 344, 345, 346, 24, 347, 26, 348, 291, 48, 292, 349, 29, 30, 31, 350, 351, 352, 353, 354, 355, 356, 357, 358, 359, 360, 361, 362, 363] (by decide +kernel) (by decide +kernel)) (goodIn_sub (fun _ h => List.mem_cons_of_mem _ (List.mem_append_right _ h)) (by decide +kernel))) (goodIn_sub (fun _ h => List.mem_cons_of_mem _ (List.mem_append_left _ (List.mem_append_left _ (List.mem_append_right _ h)))) (by decide +kernel))
set_option maxRecDepth 20000 in
theorem gL_refusesPlaces_L_sent : GoodIn wsL_refusesPlaces (va_wsS RL 96 yL_sent wsL_sent) := goodIn_app (goodIn_of _ (by decide +kernel)) ggL_refusesPlaces_L_sent
theorem dL_refusesPlaces_0 : decode cL_refusesPlaces 0 = .ok (.iconst 0, 1) := by decide +kernel
theorem dL_refusesPlaces_1 : decode cL_refusesPlaces 1 = .ok (.istore_n 1, 1) := by decide +kernel
theorem dL_refusesPlaces_2 : decode cL_refusesPlaces 2 = .ok (.iload_n 1, 1) := by decide +kernel
theorem dL_refusesPlaces_3 : decode cL_refusesPlaces 3 = .ok (.iconst 2, 1) := by decide +kernel
theorem dL_refusesPlaces_4 : decode cL_refusesPlaces 4 = .ok (.if_icmp .ge 309, 3) := by decide +kernel
theorem dL_refusesPlaces_7 : decode cL_refusesPlaces 7 = .ok (.iload_n 1, 1) := by decide +kernel
theorem dL_refusesPlaces_8 : decode cL_refusesPlaces 8 = .ok (.ifCond .ne 11, 3) := by decide +kernel
theorem dL_refusesPlaces_11 : decode cL_refusesPlaces 11 = .ok (.aload_n 0, 1) := by decide +kernel
theorem dL_refusesPlaces_12 : decode cL_refusesPlaces 12 = .ok (.iconst 0, 1) := by decide +kernel
theorem dL_refusesPlaces_13 : decode cL_refusesPlaces 13 = .ok (.invokestatic 73, 3) := by decide +kernel
theorem dL_refusesPlaces_16 : decode cL_refusesPlaces 16 = .ok (.goto 4, 3) := by decide +kernel
theorem dL_refusesPlaces_19 : decode cL_refusesPlaces 19 = .ok (.iconst (-1), 1) := by decide +kernel
theorem dL_refusesPlaces_20 : decode cL_refusesPlaces 20 = .ok (.istore_n 2, 1) := by decide +kernel
theorem dL_refusesPlaces_21 : decode cL_refusesPlaces 21 = .ok (.iload_n 1, 1) := by decide +kernel
theorem dL_refusesPlaces_22 : decode cL_refusesPlaces 22 = .ok (.ifCond .ne 11, 3) := by decide +kernel
theorem dL_refusesPlaces_25 : decode cL_refusesPlaces 25 = .ok (.aload_n 0, 1) := by decide +kernel
theorem dL_refusesPlaces_26 : decode cL_refusesPlaces 26 = .ok (.iconst 1, 1) := by decide +kernel
theorem dL_refusesPlaces_27 : decode cL_refusesPlaces 27 = .ok (.invokestatic 73, 3) := by decide +kernel
theorem dL_refusesPlaces_30 : decode cL_refusesPlaces 30 = .ok (.goto 4, 3) := by decide +kernel
theorem dL_refusesPlaces_33 : decode cL_refusesPlaces 33 = .ok (.iconst (-1), 1) := by decide +kernel
theorem dL_refusesPlaces_34 : decode cL_refusesPlaces 34 = .ok (.istore_n 3, 1) := by decide +kernel
theorem dL_refusesPlaces_35 : decode cL_refusesPlaces 35 = .ok (.iload_n 1, 1) := by decide +kernel
theorem dL_refusesPlaces_36 : decode cL_refusesPlaces 36 = .ok (.ifCond .ne 11, 3) := by decide +kernel
theorem dL_refusesPlaces_39 : decode cL_refusesPlaces 39 = .ok (.aload_n 0, 1) := by decide +kernel
theorem dL_refusesPlaces_40 : decode cL_refusesPlaces 40 = .ok (.iconst 2, 1) := by decide +kernel
theorem dL_refusesPlaces_41 : decode cL_refusesPlaces 41 = .ok (.invokestatic 73, 3) := by decide +kernel
theorem dL_refusesPlaces_44 : decode cL_refusesPlaces 44 = .ok (.goto 4, 3) := by decide +kernel
theorem dL_refusesPlaces_47 : decode cL_refusesPlaces 47 = .ok (.iconst (-1), 1) := by decide +kernel
theorem dL_refusesPlaces_48 : decode cL_refusesPlaces 48 = .ok (.istore 4, 2) := by decide +kernel
theorem dL_refusesPlaces_50 : decode cL_refusesPlaces 50 = .ok (.aload_n 0, 1) := by decide +kernel
theorem dL_refusesPlaces_51 : decode cL_refusesPlaces 51 = .ok (.iload_n 3, 1) := by decide +kernel
theorem dL_refusesPlaces_52 : decode cL_refusesPlaces 52 = .ok (.invokestatic 112, 3) := by decide +kernel
theorem dL_refusesPlaces_55 : decode cL_refusesPlaces 55 = .ok (.sipush (-3001), 3) := by decide +kernel
theorem dL_refusesPlaces_58 : decode cL_refusesPlaces 58 = .ok (.if_icmp .ne 147, 3) := by decide +kernel
theorem dL_refusesPlaces_61 : decode cL_refusesPlaces 61 = .ok (.aload_n 0, 1) := by decide +kernel
theorem dL_refusesPlaces_62 : decode cL_refusesPlaces 62 = .ok (.iload 4, 2) := by decide +kernel
theorem dL_refusesPlaces_64 : decode cL_refusesPlaces 64 = .ok (.invokestatic 115, 3) := by decide +kernel
theorem dL_refusesPlaces_67 : decode cL_refusesPlaces 67 = .ok (.sipush (-3001), 3) := by decide +kernel
theorem dL_refusesPlaces_70 : decode cL_refusesPlaces 70 = .ok (.if_icmp .ne 135, 3) := by decide +kernel
theorem dL_refusesPlaces_73 : decode cL_refusesPlaces 73 = .ok (.aload_n 0, 1) := by decide +kernel
theorem dL_refusesPlaces_74 : decode cL_refusesPlaces 74 = .ok (.iload_n 1, 1) := by decide +kernel
theorem dL_refusesPlaces_75 : decode cL_refusesPlaces 75 = .ok (.ifCond .ne 7, 3) := by decide +kernel
theorem dL_refusesPlaces_78 : decode cL_refusesPlaces 78 = .ok (.iconst 4, 1) := by decide +kernel
theorem dL_refusesPlaces_79 : decode cL_refusesPlaces 79 = .ok (.goto 4, 3) := by decide +kernel
theorem dL_refusesPlaces_82 : decode cL_refusesPlaces 82 = .ok (.iconst (-1), 1) := by decide +kernel
theorem dL_refusesPlaces_83 : decode cL_refusesPlaces 83 = .ok (.sipush 999, 3) := by decide +kernel
theorem dL_refusesPlaces_86 : decode cL_refusesPlaces 86 = .ok (.invokestatic 118, 3) := by decide +kernel
theorem dL_refusesPlaces_89 : decode cL_refusesPlaces 89 = .ok (.sipush (-3001), 3) := by decide +kernel
theorem dL_refusesPlaces_92 : decode cL_refusesPlaces 92 = .ok (.if_icmp .ne 113, 3) := by decide +kernel
theorem dL_refusesPlaces_95 : decode cL_refusesPlaces 95 = .ok (.aload_n 0, 1) := by decide +kernel
theorem dL_refusesPlaces_96 : decode cL_refusesPlaces 96 = .ok (.iload_n 2, 1) := by decide +kernel
theorem dL_refusesPlaces_97 : decode cL_refusesPlaces 97 = .ok (.bipush 99, 2) := by decide +kernel
theorem dL_refusesPlaces_99 : decode cL_refusesPlaces 99 = .ok (.invokestatic 121, 3) := by decide +kernel
theorem dL_refusesPlaces_102 : decode cL_refusesPlaces 102 = .ok (.sipush (-3001), 3) := by decide +kernel
theorem dL_refusesPlaces_105 : decode cL_refusesPlaces 105 = .ok (.if_icmp .ne 100, 3) := by decide +kernel
theorem dL_refusesPlaces_108 : decode cL_refusesPlaces 108 = .ok (.aload_n 0, 1) := by decide +kernel
theorem dL_refusesPlaces_109 : decode cL_refusesPlaces 109 = .ok (.iload 4, 2) := by decide +kernel
theorem dL_refusesPlaces_111 : decode cL_refusesPlaces 111 = .ok (.bipush 99, 2) := by decide +kernel
theorem dL_refusesPlaces_113 : decode cL_refusesPlaces 113 = .ok (.invokestatic 90, 3) := by decide +kernel
theorem dL_refusesPlaces_116 : decode cL_refusesPlaces 116 = .ok (.sipush (-3001), 3) := by decide +kernel
theorem dL_refusesPlaces_119 : decode cL_refusesPlaces 119 = .ok (.if_icmp .ne 86, 3) := by decide +kernel
theorem dL_refusesPlaces_122 : decode cL_refusesPlaces 122 = .ok (.aload_n 0, 1) := by decide +kernel
theorem dL_refusesPlaces_123 : decode cL_refusesPlaces 123 = .ok (.iload_n 2, 1) := by decide +kernel
theorem dL_refusesPlaces_124 : decode cL_refusesPlaces 124 = .ok (.bipush 99, 2) := by decide +kernel
theorem dL_refusesPlaces_126 : decode cL_refusesPlaces 126 = .ok (.invokestatic 83, 3) := by decide +kernel
theorem dL_refusesPlaces_129 : decode cL_refusesPlaces 129 = .ok (.sipush (-3001), 3) := by decide +kernel
theorem dL_refusesPlaces_132 : decode cL_refusesPlaces 132 = .ok (.if_icmp .ne 73, 3) := by decide +kernel
theorem dL_refusesPlaces_135 : decode cL_refusesPlaces 135 = .ok (.aload_n 0, 1) := by decide +kernel
theorem dL_refusesPlaces_136 : decode cL_refusesPlaces 136 = .ok (.iload_n 3, 1) := by decide +kernel
theorem dL_refusesPlaces_137 : decode cL_refusesPlaces 137 = .ok (.bipush 99, 2) := by decide +kernel
theorem dL_refusesPlaces_139 : decode cL_refusesPlaces 139 = .ok (.invokestatic 87, 3) := by decide +kernel
theorem dL_refusesPlaces_142 : decode cL_refusesPlaces 142 = .ok (.sipush (-3001), 3) := by decide +kernel
theorem dL_refusesPlaces_145 : decode cL_refusesPlaces 145 = .ok (.if_icmp .ne 60, 3) := by decide +kernel
theorem dL_refusesPlaces_148 : decode cL_refusesPlaces 148 = .ok (.aload_n 0, 1) := by decide +kernel
theorem dL_refusesPlaces_149 : decode cL_refusesPlaces 149 = .ok (.iload 4, 2) := by decide +kernel
theorem dL_refusesPlaces_151 : decode cL_refusesPlaces 151 = .ok (.invokestatic 93, 3) := by decide +kernel
theorem dL_refusesPlaces_154 : decode cL_refusesPlaces 154 = .ok (.sipush (-3001), 3) := by decide +kernel
theorem dL_refusesPlaces_157 : decode cL_refusesPlaces 157 = .ok (.if_icmp .ne 48, 3) := by decide +kernel
theorem dL_refusesPlaces_160 : decode cL_refusesPlaces 160 = .ok (.aload_n 0, 1) := by decide +kernel
theorem dL_refusesPlaces_161 : decode cL_refusesPlaces 161 = .ok (.iload 4, 2) := by decide +kernel
theorem dL_refusesPlaces_163 : decode cL_refusesPlaces 163 = .ok (.invokestatic 124, 3) := by decide +kernel
theorem dL_refusesPlaces_166 : decode cL_refusesPlaces 166 = .ok (.sipush (-3001), 3) := by decide +kernel
theorem dL_refusesPlaces_169 : decode cL_refusesPlaces 169 = .ok (.if_icmp .ne 36, 3) := by decide +kernel
theorem dL_refusesPlaces_172 : decode cL_refusesPlaces 172 = .ok (.aload_n 0, 1) := by decide +kernel
theorem dL_refusesPlaces_173 : decode cL_refusesPlaces 173 = .ok (.iload_n 2, 1) := by decide +kernel
theorem dL_refusesPlaces_174 : decode cL_refusesPlaces 174 = .ok (.invokestatic 127, 3) := by decide +kernel
theorem dL_refusesPlaces_177 : decode cL_refusesPlaces 177 = .ok (.sipush (-3001), 3) := by decide +kernel
theorem dL_refusesPlaces_180 : decode cL_refusesPlaces 180 = .ok (.if_icmp .ne 25, 3) := by decide +kernel
theorem dL_refusesPlaces_183 : decode cL_refusesPlaces 183 = .ok (.aload_n 0, 1) := by decide +kernel
theorem dL_refusesPlaces_184 : decode cL_refusesPlaces 184 = .ok (.iload_n 1, 1) := by decide +kernel
theorem dL_refusesPlaces_185 : decode cL_refusesPlaces 185 = .ok (.ifCond .ne 8, 3) := by decide +kernel
theorem dL_refusesPlaces_188 : decode cL_refusesPlaces 188 = .ok (.bipush 30, 2) := by decide +kernel
theorem dL_refusesPlaces_190 : decode cL_refusesPlaces 190 = .ok (.goto 4, 3) := by decide +kernel
theorem dL_refusesPlaces_193 : decode cL_refusesPlaces 193 = .ok (.iconst (-1), 1) := by decide +kernel
theorem dL_refusesPlaces_194 : decode cL_refusesPlaces 194 = .ok (.bipush 9, 2) := by decide +kernel
theorem dL_refusesPlaces_196 : decode cL_refusesPlaces 196 = .ok (.invokestatic 96, 3) := by decide +kernel
theorem dL_refusesPlaces_199 : decode cL_refusesPlaces 199 = .ok (.sipush (-3001), 3) := by decide +kernel
theorem dL_refusesPlaces_202 : decode cL_refusesPlaces 202 = .ok (.if_icmp .eq 5, 3) := by decide +kernel
theorem dL_refusesPlaces_205 : decode cL_refusesPlaces 205 = .ok (.iconst 0, 1) := by decide +kernel
theorem dL_refusesPlaces_206 : decode cL_refusesPlaces 206 = .ok (.ireturn, 1) := by decide +kernel
theorem dL_refusesPlaces_207 : decode cL_refusesPlaces 207 = .ok (.aload_n 0, 1) := by decide +kernel
theorem dL_refusesPlaces_208 : decode cL_refusesPlaces 208 = .ok (.iconst 0, 1) := by decide +kernel
theorem dL_refusesPlaces_209 : decode cL_refusesPlaces 209 = .ok (.iload_n 1, 1) := by decide +kernel
theorem dL_refusesPlaces_210 : decode cL_refusesPlaces 210 = .ok (.ifCond .ne 7, 3) := by decide +kernel
theorem dL_refusesPlaces_213 : decode cL_refusesPlaces 213 = .ok (.iconst 4, 1) := by decide +kernel
theorem dL_refusesPlaces_214 : decode cL_refusesPlaces 214 = .ok (.goto 4, 3) := by decide +kernel
theorem dL_refusesPlaces_217 : decode cL_refusesPlaces 217 = .ok (.iconst (-1), 1) := by decide +kernel
theorem dL_refusesPlaces_218 : decode cL_refusesPlaces 218 = .ok (.invokestatic 83, 3) := by decide +kernel
theorem dL_refusesPlaces_221 : decode cL_refusesPlaces 221 = .ok (.sipush (-3002), 3) := by decide +kernel
theorem dL_refusesPlaces_224 : decode cL_refusesPlaces 224 = .ok (.if_icmp .ne 81, 3) := by decide +kernel
theorem dL_refusesPlaces_227 : decode cL_refusesPlaces 227 = .ok (.aload_n 0, 1) := by decide +kernel
theorem dL_refusesPlaces_228 : decode cL_refusesPlaces 228 = .ok (.iconst 0, 1) := by decide +kernel
theorem dL_refusesPlaces_229 : decode cL_refusesPlaces 229 = .ok (.iload_n 1, 1) := by decide +kernel
theorem dL_refusesPlaces_230 : decode cL_refusesPlaces 230 = .ok (.ifCond .ne 7, 3) := by decide +kernel
theorem dL_refusesPlaces_233 : decode cL_refusesPlaces 233 = .ok (.iconst 5, 1) := by decide +kernel
theorem dL_refusesPlaces_234 : decode cL_refusesPlaces 234 = .ok (.goto 4, 3) := by decide +kernel
theorem dL_refusesPlaces_237 : decode cL_refusesPlaces 237 = .ok (.iconst (-1), 1) := by decide +kernel
theorem dL_refusesPlaces_238 : decode cL_refusesPlaces 238 = .ok (.invokestatic 87, 3) := by decide +kernel
theorem dL_refusesPlaces_241 : decode cL_refusesPlaces 241 = .ok (.sipush (-3002), 3) := by decide +kernel
theorem dL_refusesPlaces_244 : decode cL_refusesPlaces 244 = .ok (.if_icmp .ne 61, 3) := by decide +kernel
theorem dL_refusesPlaces_247 : decode cL_refusesPlaces 247 = .ok (.aload_n 0, 1) := by decide +kernel
theorem dL_refusesPlaces_248 : decode cL_refusesPlaces 248 = .ok (.iconst 2, 1) := by decide +kernel
theorem dL_refusesPlaces_249 : decode cL_refusesPlaces 249 = .ok (.invokestatic 73, 3) := by decide +kernel
theorem dL_refusesPlaces_252 : decode cL_refusesPlaces 252 = .ok (.ifCond .le 24, 3) := by decide +kernel
theorem dL_refusesPlaces_255 : decode cL_refusesPlaces 255 = .ok (.aload_n 0, 1) := by decide +kernel
theorem dL_refusesPlaces_256 : decode cL_refusesPlaces 256 = .ok (.iconst 0, 1) := by decide +kernel
theorem dL_refusesPlaces_257 : decode cL_refusesPlaces 257 = .ok (.iload_n 1, 1) := by decide +kernel
theorem dL_refusesPlaces_258 : decode cL_refusesPlaces 258 = .ok (.ifCond .ne 8, 3) := by decide +kernel
theorem dL_refusesPlaces_261 : decode cL_refusesPlaces 261 = .ok (.bipush 10, 2) := by decide +kernel
theorem dL_refusesPlaces_263 : decode cL_refusesPlaces 263 = .ok (.goto 4, 3) := by decide +kernel
theorem dL_refusesPlaces_266 : decode cL_refusesPlaces 266 = .ok (.iconst (-1), 1) := by decide +kernel
theorem dL_refusesPlaces_267 : decode cL_refusesPlaces 267 = .ok (.invokestatic 90, 3) := by decide +kernel
theorem dL_refusesPlaces_270 : decode cL_refusesPlaces 270 = .ok (.sipush (-3002), 3) := by decide +kernel
theorem dL_refusesPlaces_273 : decode cL_refusesPlaces 273 = .ok (.if_icmp .ne 32, 3) := by decide +kernel
theorem dL_refusesPlaces_276 : decode cL_refusesPlaces 276 = .ok (.aload_n 0, 1) := by decide +kernel
theorem dL_refusesPlaces_277 : decode cL_refusesPlaces 277 = .ok (.iconst 0, 1) := by decide +kernel
theorem dL_refusesPlaces_278 : decode cL_refusesPlaces 278 = .ok (.iconst 0, 1) := by decide +kernel
theorem dL_refusesPlaces_279 : decode cL_refusesPlaces 279 = .ok (.invokestatic 96, 3) := by decide +kernel
theorem dL_refusesPlaces_282 : decode cL_refusesPlaces 282 = .ok (.ifCond .lt 25, 3) := by decide +kernel
theorem dL_refusesPlaces_285 : decode cL_refusesPlaces 285 = .ok (.aload_n 0, 1) := by decide +kernel
theorem dL_refusesPlaces_286 : decode cL_refusesPlaces 286 = .ok (.iconst 0, 1) := by decide +kernel
theorem dL_refusesPlaces_287 : decode cL_refusesPlaces 287 = .ok (.iload_n 1, 1) := by decide +kernel
theorem dL_refusesPlaces_288 : decode cL_refusesPlaces 288 = .ok (.ifCond .ne 7, 3) := by decide +kernel
theorem dL_refusesPlaces_291 : decode cL_refusesPlaces 291 = .ok (.iconst 2, 1) := by decide +kernel
theorem dL_refusesPlaces_292 : decode cL_refusesPlaces 292 = .ok (.goto 4, 3) := by decide +kernel
theorem dL_refusesPlaces_295 : decode cL_refusesPlaces 295 = .ok (.iconst (-1), 1) := by decide +kernel
theorem dL_refusesPlaces_296 : decode cL_refusesPlaces 296 = .ok (.invokestatic 96, 3) := by decide +kernel
theorem dL_refusesPlaces_299 : decode cL_refusesPlaces 299 = .ok (.sipush (-3002), 3) := by decide +kernel
theorem dL_refusesPlaces_302 : decode cL_refusesPlaces 302 = .ok (.if_icmp .eq 5, 3) := by decide +kernel
theorem dL_refusesPlaces_305 : decode cL_refusesPlaces 305 = .ok (.iconst 0, 1) := by decide +kernel
theorem dL_refusesPlaces_306 : decode cL_refusesPlaces 306 = .ok (.ireturn, 1) := by decide +kernel
theorem dL_refusesPlaces_307 : decode cL_refusesPlaces 307 = .ok (.iinc 1 1, 3) := by decide +kernel
theorem dL_refusesPlaces_310 : decode cL_refusesPlaces 310 = .ok (.goto (-308), 3) := by decide +kernel
theorem dL_refusesPlaces_313 : decode cL_refusesPlaces 313 = .ok (.iconst 1, 1) := by decide +kernel
theorem dL_refusesPlaces_314 : decode cL_refusesPlaces 314 = .ok (.ireturn, 1) := by decide +kernel
set_option maxRecDepth 20000 in
theorem ggp2_0 : GoodIn wsL_refused wsX4_digest_r1 := goodIn_r _ [6, 7, 8, 9, 10, 11, 12, 13, 4, 14, 15, 16, 17, 18, 19, 20, 21, 22, 23, 24, 25, 26, 27, 28] (by decide +kernel) (by decide +kernel)
set_option maxRecDepth 20000 in
theorem ggp2_1 : GoodIn wsL_refused wsX4_digest_r2 := goodIn_r _ [29, 30, 31, 32, 33, 34, 35, 36, 37, 38, 39, 40, 41, 42, 43, 44, 45, 46, 47, 48, 49, 50, 51, 52] (by decide +kernel) (by decide +kernel)
set_option maxRecDepth 20000 in
theorem ggp2_2 : GoodIn wsL_refused wsX4_digest_r3 := goodIn_r _ [53, 54, 55, 56, 57, 58, 59, 60, 61, 62, 63, 64, 65, 66, 67, 68, 69, 70, 71, 72, 73, 74, 75, 76] (by decide +kernel) (by decide +kernel)
set_option maxRecDepth 20000 in
theorem ggp2_3 : GoodIn wsL_refused wsX4_digest_r4 := goodIn_r _ [77, 78, 79, 80, 81, 82, 83, 84, 85, 86, 87, 88, 89, 90, 91, 92, 93, 94, 95, 96, 97, 98, 99, 100] (by decide +kernel) (by decide +kernel)
set_option maxRecDepth 20000 in
theorem ggp2_4 : GoodIn wsL_refused wsX4_digest_r5 := goodIn_r _ [101, 102, 103, 104, 105, 106, 107, 108, 109, 110, 111, 112, 113, 114, 115, 116, 117, 118, 119, 120, 121, 122, 123, 124] (by decide +kernel) (by decide +kernel)
set_option maxRecDepth 20000 in
theorem ggp2_5 : GoodIn wsL_refused wsX4_digest_r6 := goodIn_r _ [125, 126, 127, 128, 129, 130, 131, 132, 133, 134, 135, 136, 137, 138, 139, 140, 141, 142, 143, 144, 145, 146, 147, 148] (by decide +kernel) (by decide +kernel)
set_option maxRecDepth 20000 in
theorem ggp2_6 : GoodIn wsL_refused wsX4_digest_r7 := goodIn_r _ [149, 150, 151, 152, 153, 154, 155, 156, 157, 158, 159, 160, 161, 162, 163, 164, 165, 166, 167, 168, 169, 170, 171, 172] (by decide +kernel) (by decide +kernel)
set_option maxRecDepth 20000 in
theorem ggp2_7 : GoodIn wsL_refused wsX4_digest_r8 := goodIn_r _ [173, 174, 175, 176, 177, 178, 179, 180, 181, 182, 183, 184, 185, 186, 187, 188, 189, 190, 191, 192, 193, 194, 195, 196] (by decide +kernel) (by decide +kernel)
set_option maxRecDepth 20000 in
theorem ggp2_8 : GoodIn wsL_refused wsX4_digest_r9 := goodIn_r _ [197, 198, 199, 200, 201, 202, 203, 204, 205, 206, 207, 208, 209, 210, 211, 212, 213, 214, 215, 216, 217, 218, 219, 220] (by decide +kernel) (by decide +kernel)
set_option maxRecDepth 20000 in
theorem ggp2_9 : GoodIn wsL_refused wsX4_digest_r10 := goodIn_r _ [221, 222, 223, 224, 225, 226, 227, 228, 229, 230, 231, 232, 233, 234, 235, 236, 237, 238, 239, 240, 241, 242, 243, 244] (by decide +kernel) (by decide +kernel)
set_option maxRecDepth 20000 in
theorem ggp2_10 : GoodIn wsL_refused wsX4_digest_r11 := goodIn_r _ [245, 246, 247, 248, 249, 250, 251, 252, 253, 254, 255, 256, 257, 258, 259, 260, 261, 262, 263, 264, 265, 266, 267, 268] (by decide +kernel) (by decide +kernel)
set_option maxRecDepth 20000 in
theorem ggp2_11 : GoodIn wsL_refused wsX4_digest_r12 := goodIn_r _ [269, 270, 271, 272, 273, 274, 275, 276, 277, 278, 279, 280, 281, 282, 283, 284, 285] (by decide +kernel) (by decide +kernel)
set_option maxRecDepth 20000 in
theorem ggp2_12 : GoodIn wsL_refused wsX40 := goodIn_r _ [419, 420, 421, 422, 423] (by decide +kernel) (by decide +kernel)
set_option maxRecDepth 20000 in
theorem ggp2_13 : GoodIn wsL_refused wsX20 := goodIn_r _ [424, 425] (by decide +kernel) (by decide +kernel)
set_option maxRecDepth 20000 in
theorem ggp2_14 : GoodIn wsL_refused wsX00 := goodIn_r _ [426, 427, 428, 429, 430, 431, 432, 433, 434] (by decide +kernel) (by decide +kernel)
set_option maxRecDepth 20000 in
theorem ggp2_15 : GoodIn wsL_refused wsX10 := goodIn_r _ [435, 436, 437, 438, 439, 440] (by decide +kernel) (by decide +kernel)
set_option maxRecDepth 20000 in
theorem ggp2_16 : GoodIn wsL_refused wsX30 := goodIn_r _ [441, 442, 443, 444, 445, 446, 447, 448] (by decide +kernel) (by decide +kernel)
