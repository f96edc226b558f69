set_option maxRecDepth 20000 in
theorem ggL_from_L_all : GoodIn wsL_from wsL_all := goodIn_ca (goodIn_r _ [4, 5, 6, 7, 8, 9, 10, 11, 12, 13, 14, 15, 16, 17, 18, 19, 20, 21, 22, 23, 24, 25, 26, 27, 28, 29, 30, 31, 32, 33, 34, 35, 36, 37, 38, 39, 40, 41, 42, 43, 44, 45, 46, 47, 48, 49, 287, 288, 289, 290, 291, 292, 293, 294, 295, 296, 297, 298, 299, 300, 301, 302, 303, 304, 305, 306, 307, 308, 309, 310, 311, 312, 313, 314] (by decide +kernel) (by decide +kernel)) (goodIn_sub (fun _ h => List.mem_cons_of_mem _ (List.mem_append_left _ (List.mem_append_right _ h))) (by decide +kernel))
set_option maxRecDepth 20000 in
theorem gL_from_L_all : GoodIn wsL_from (va_wsS RL 73 yL_all wsL_all) := goodIn_app (goodIn_of _ (by decide +kernel)) ggL_from_L_all
set_option maxRecDepth 20000 in
theorem ggL_from_L_mixed : GoodIn wsL_from wsL_mixed := goodIn_r _ [52, 53] (by decide +kernel) (by decide +kernel)
set_option maxRecDepth 20000 in
theorem gL_from_L_mixed : GoodIn wsL_from (va_wsS RL 79 yL_mixed wsL_mixed) := goodIn_app (goodIn_of _ (by decide +kernel)) ggL_from_L_mixed
set_option maxRecDepth 20000 in
theorem ggL_from_L_cellBy : GoodIn wsL_from wsL_cellBy := goodIn_ca (goodIn_ca (goodIn_r _ [56, 57, 5, 58, 59, 60, 9, 61, 11, 12, 13, 14, 62, 63, 64, 65, 66, 67, 68, 69, 70, 15, 71, 72, 73, 24, 74, 36, 37, 75, 287, 288, 289, 290, 291, 292, 293, 294, 295, 296, 297, 298, 299, 300, 301, 302, 303, 304, 305, 306, 307, 308, 309, 310, 311, 312, 313, 314] (by decide +kernel) (by decide +kernel)) (goodIn_sub (fun _ h => List.mem_cons_of_mem _ (List.mem_append_left _ (List.mem_append_right _ h))) (by decide +kernel))) (goodIn_sub (fun _ h => List.mem_cons_of_mem _ (List.mem_append_right _ h)) (by decide +kernel))
set_option maxRecDepth 20000 in
theorem gL_from_L_cellBy : GoodIn wsL_from (va_wsS RL 83 yL_cellBy wsL_cellBy) := goodIn_app (goodIn_of _ (by decide +kernel)) ggL_from_L_cellBy
set_option maxRecDepth 20000 in
theorem ggL_from_L_blockBy : GoodIn wsL_from wsL_blockBy := goodIn_ca (goodIn_ca (goodIn_r _ [78, 57, 5, 79, 80, 81, 9, 82, 11, 12, 13, 14, 83, 84, 85, 86, 87, 88, 69, 70, 16, 89, 90, 91, 42, 92, 93, 94, 95, 96, 97, 98, 99, 100, 101, 102, 44, 103, 104, 105, 106, 107, 108, 109, 24, 110, 36, 111, 112, 37, 75, 287, 288, 289, 290, 291, 292, 293, 294, 295, 296, 297, 298, 299, 300, 301, 302, 303, 304, 305, 306, 307, 308, 309, 310, 311, 312, 313, 314] (by decide +kernel) (by decide +kernel)) (goodIn_sub (fun _ h => List.mem_cons_of_mem _ (List.mem_append_left _ (List.mem_append_right _ h))) (by decide +kernel))) (goodIn_sub (fun _ h => List.mem_cons_of_mem _ (List.mem_append_right _ h)) (by decide +kernel))
set_option maxRecDepth 20000 in
theorem gL_from_L_blockBy : GoodIn wsL_from (va_wsS RL 87 yL_blockBy wsL_blockBy) := goodIn_app (goodIn_of _ (by decide +kernel)) ggL_from_L_blockBy
set_option maxRecDepth 20000 in
theorem ggL_from_L_trainBy : GoodIn wsL_from wsL_trainBy := goodIn_ca (goodIn_ca (goodIn_r _ [115, 57, 5, 116, 117, 118, 9, 119, 11, 12, 13, 120, 121, 122, 123, 124, 125, 126, 127, 128, 129, 130, 131, 132, 69, 70, 17, 133, 134, 135, 24, 136, 111, 112, 75, 137, 138, 139, 140, 141, 142, 287, 288, 289, 290, 291, 292, 293, 294, 295, 296, 297, 298, 299, 300, 307, 308, 309, 310, 311, 312, 313, 314, 301, 302, 303, 304, 305, 306] (by decide +kernel) (by decide +kernel)) (goodIn_sub (fun _ h => List.mem_cons_of_mem _ (List.mem_append_left _ (List.mem_append_right _ h))) (by decide +kernel))) (goodIn_sub (fun _ h => List.mem_cons_of_mem _ (List.mem_append_right _ h)) (by decide +kernel))
set_option maxRecDepth 20000 in
theorem gL_from_L_trainBy : GoodIn wsL_from (va_wsS RL 90 yL_trainBy wsL_trainBy) := goodIn_app (goodIn_of _ (by decide +kernel)) ggL_from_L_trainBy
set_option maxRecDepth 20000 in
theorem ggL_from_L_reason : GoodIn wsL_from wsL_reason := goodIn_ca (goodIn_r _ [145, 57, 146, 147, 148, 9, 149, 13, 120, 129, 130, 131, 132, 69, 70, 17, 150, 151, 152, 24, 153, 38, 111, 154, 142, 26, 155, 156, 134, 135, 136, 112, 75, 157, 158, 159, 42, 160, 98, 161, 162, 163, 164, 37, 165, 94, 95, 96, 97, 166, 72, 73, 74, 36, 167, 108, 109, 110, 168, 22, 23, 25, 27, 28, 29, 30, 31, 287, 288, 289, 290, 291, 292, 293, 294, 295, 296, 297, 298, 299, 300, 307, 308, 309, 310, 311, 312, 313, 314, 301, 302, 303, 304, 305, 306] (by decide +kernel) (by decide +kernel)) (goodIn_sub (fun _ h => List.mem_cons_of_mem _ (List.mem_append_right _ h)) (by decide +kernel))
set_option maxRecDepth 20000 in
theorem gL_from_L_reason : GoodIn wsL_from (va_wsS RL 93 yL_reason wsL_reason) := goodIn_app (goodIn_of _ (by decide +kernel)) ggL_from_L_reason
set_option maxRecDepth 20000 in
theorem ggL_from_L_sent : GoodIn wsL_from wsL_sent := goodIn_ca (goodIn_ca (goodIn_r _ [171, 57, 5, 172, 173, 174, 9, 175, 69, 70, 11, 12, 13, 176, 177, 178, 179, 180, 24, 181, 26, 182, 183, 48, 184, 185, 29, 30, 31, 287, 288, 289, 290, 291, 292, 293, 294, 295, 296, 297, 298, 299, 300] (by decide +kernel) (by decide +kernel)) (goodIn_sub (fun _ h => List.mem_cons_of_mem _ (List.mem_append_right _ h)) (by decide +kernel))) (goodIn_sub (fun _ h => List.mem_cons_of_mem _ (List.mem_append_left _ (List.mem_append_right _ h))) (by decide +kernel))
set_option maxRecDepth 20000 in
theorem gL_from_L_sent : GoodIn wsL_from (va_wsS RL 96 yL_sent wsL_sent) := goodIn_app (goodIn_of _ (by decide +kernel)) ggL_from_L_sent
set_option maxRecDepth 20000 in
theorem ggL_from_X4_ticksToValley : GoodIn wsL_from wsX4_ticksToValley := goodIn_r _ [189, 13, 19, 190, 191, 192, 9, 193, 194, 195, 196, 197, 24, 198, 111, 37, 142, 199, 200, 201, 202, 203, 27, 204, 36, 155, 26, 205, 206, 207, 42, 208, 45, 209, 210, 211, 97, 44, 98, 212, 213, 214, 215, 216, 217, 218, 219, 220, 221, 222, 223, 224, 32, 33, 34, 35, 38, 225, 226, 227, 228, 229, 230, 231, 232, 154, 233, 151, 152, 153, 156, 134, 135, 136, 112, 75, 157, 158, 159, 160, 161, 162, 163, 164, 165, 94, 95, 96, 166, 72, 73, 74, 167, 108, 109, 110, 168, 22, 23, 25, 28, 29, 30, 31, 234, 235, 236, 237, 238, 239, 240, 241, 242, 243, 244, 245, 246, 247, 248, 249, 250, 251, 252, 253, 138, 139, 140, 141, 254, 255, 256, 257, 258, 183, 48, 184, 99, 100, 101, 102, 259, 260, 261, 262, 263, 264, 265, 266, 267, 268, 269, 270, 271, 272, 273, 274, 275, 276, 277, 278, 279, 280, 281, 282, 283, 284, 285, 286, 287, 288, 289, 290, 291, 292, 293, 294, 295, 296, 297, 298, 299, 300, 301, 302, 303, 304, 305, 306, 307, 308, 309, 310, 311, 312, 313, 314] (by decide +kernel) (by decide +kernel)
set_option maxRecDepth 20000 in
theorem gL_from_X4_ticksToValley : GoodIn wsL_from (wsV RL 99 RX4 yX4_ticksToValley wsX4_ticksToValley) := goodIn_app (goodIn_of _ (by decide +kernel)) ggL_from_X4_ticksToValley
theorem dL_from_0 : decode cL_from 0 = .ok (.lload_n 1, 1) := by decide +kernel
theorem dL_from_1 : decode cL_from 1 = .ok (.lstore_n 3, 1) := by decide +kernel
theorem dL_from_2 : decode cL_from 2 = .ok (.iconst 0, 1) := by decide +kernel
theorem dL_from_3 : decode cL_from 3 = .ok (.istore 5, 2) := by decide +kernel
theorem dL_from_5 : decode cL_from 5 = .ok (.iload 5, 2) := by decide +kernel
theorem dL_from_7 : decode cL_from 7 = .ok (.bipush 12, 2) := by decide +kernel
theorem dL_from_9 : decode cL_from 9 = .ok (.if_icmp .ge 21, 3) := by decide +kernel
theorem dL_from_12 : decode cL_from 12 = .ok (.lload_n 3, 1) := by decide +kernel
theorem dL_from_13 : decode cL_from 13 = .ok (.aload_n 0, 1) := by decide +kernel
theorem dL_from_14 : decode cL_from 14 = .ok (.iload 5, 2) := by decide +kernel
theorem dL_from_16 : decode cL_from 16 = .ok (.invokestatic 73, 3) := by decide +kernel
theorem dL_from_19 : decode cL_from 19 = .ok (.i2l, 1) := by decide +kernel
theorem dL_from_20 : decode cL_from 20 = .ok (.invokestatic 79, 3) := by decide +kernel
theorem dL_from_23 : decode cL_from 23 = .ok (.lstore_n 3, 1) := by decide +kernel
theorem dL_from_24 : decode cL_from 24 = .ok (.iinc 5 1, 3) := by decide +kernel
theorem dL_from_27 : decode cL_from 27 = .ok (.goto (-22), 3) := by decide +kernel
theorem dL_from_30 : decode cL_from 30 = .ok (.iconst 0, 1) := by decide +kernel
theorem dL_from_31 : decode cL_from 31 = .ok (.istore 5, 2) := by decide +kernel
theorem dL_from_33 : decode cL_from 33 = .ok (.iload 5, 2) := by decide +kernel
theorem dL_from_35 : decode cL_from 35 = .ok (.iconst 4, 1) := by decide +kernel
theorem dL_from_36 : decode cL_from 36 = .ok (.aload_n 0, 1) := by decide +kernel
theorem dL_from_37 : decode cL_from 37 = .ok (.iconst 0, 1) := by decide +kernel
theorem dL_from_38 : decode cL_from 38 = .ok (.invokestatic 73, 3) := by decide +kernel
theorem dL_from_41 : decode cL_from 41 = .ok (.imul, 1) := by decide +kernel
theorem dL_from_42 : decode cL_from 42 = .ok (.if_icmp .ge 27, 3) := by decide +kernel
theorem dL_from_45 : decode cL_from 45 = .ok (.lload_n 3, 1) := by decide +kernel
theorem dL_from_46 : decode cL_from 46 = .ok (.aload_n 0, 1) := by decide +kernel
theorem dL_from_47 : decode cL_from 47 = .ok (.iload 5, 2) := by decide +kernel
theorem dL_from_49 : decode cL_from 49 = .ok (.iconst 4, 1) := by decide +kernel
theorem dL_from_50 : decode cL_from 50 = .ok (.idiv, 1) := by decide +kernel
theorem dL_from_51 : decode cL_from 51 = .ok (.iload 5, 2) := by decide +kernel
theorem dL_from_53 : decode cL_from 53 = .ok (.iconst 4, 1) := by decide +kernel
theorem dL_from_54 : decode cL_from 54 = .ok (.irem, 1) := by decide +kernel
theorem dL_from_55 : decode cL_from 55 = .ok (.invokestatic 83, 3) := by decide +kernel
theorem dL_from_58 : decode cL_from 58 = .ok (.i2l, 1) := by decide +kernel
theorem dL_from_59 : decode cL_from 59 = .ok (.invokestatic 79, 3) := by decide +kernel
theorem dL_from_62 : decode cL_from 62 = .ok (.lstore_n 3, 1) := by decide +kernel
theorem dL_from_63 : decode cL_from 63 = .ok (.iinc 5 1, 3) := by decide +kernel
theorem dL_from_66 : decode cL_from 66 = .ok (.goto (-33), 3) := by decide +kernel
theorem dL_from_69 : decode cL_from 69 = .ok (.iconst 0, 1) := by decide +kernel
theorem dL_from_70 : decode cL_from 70 = .ok (.istore 5, 2) := by decide +kernel
theorem dL_from_72 : decode cL_from 72 = .ok (.iload 5, 2) := by decide +kernel
theorem dL_from_74 : decode cL_from 74 = .ok (.iconst 5, 1) := by decide +kernel
theorem dL_from_75 : decode cL_from 75 = .ok (.aload_n 0, 1) := by decide +kernel
theorem dL_from_76 : decode cL_from 76 = .ok (.iconst 1, 1) := by decide +kernel
theorem dL_from_77 : decode cL_from 77 = .ok (.invokestatic 73, 3) := by decide +kernel
theorem dL_from_80 : decode cL_from 80 = .ok (.imul, 1) := by decide +kernel
theorem dL_from_81 : decode cL_from 81 = .ok (.if_icmp .ge 27, 3) := by decide +kernel
theorem dL_from_84 : decode cL_from 84 = .ok (.lload_n 3, 1) := by decide +kernel
theorem dL_from_85 : decode cL_from 85 = .ok (.aload_n 0, 1) := by decide +kernel
theorem dL_from_86 : decode cL_from 86 = .ok (.iload 5, 2) := by decide +kernel
theorem dL_from_88 : decode cL_from 88 = .ok (.iconst 5, 1) := by decide +kernel
theorem dL_from_89 : decode cL_from 89 = .ok (.idiv, 1) := by decide +kernel
theorem dL_from_90 : decode cL_from 90 = .ok (.iload 5, 2) := by decide +kernel
theorem dL_from_92 : decode cL_from 92 = .ok (.iconst 5, 1) := by decide +kernel
theorem dL_from_93 : decode cL_from 93 = .ok (.irem, 1) := by decide +kernel
theorem dL_from_94 : decode cL_from 94 = .ok (.invokestatic 87, 3) := by decide +kernel
theorem dL_from_97 : decode cL_from 97 = .ok (.i2l, 1) := by decide +kernel
theorem dL_from_98 : decode cL_from 98 = .ok (.invokestatic 79, 3) := by decide +kernel
theorem dL_from_101 : decode cL_from 101 = .ok (.lstore_n 3, 1) := by decide +kernel
theorem dL_from_102 : decode cL_from 102 = .ok (.iinc 5 1, 3) := by decide +kernel
theorem dL_from_105 : decode cL_from 105 = .ok (.goto (-33), 3) := by decide +kernel
theorem dL_from_108 : decode cL_from 108 = .ok (.iconst 0, 1) := by decide +kernel
theorem dL_from_109 : decode cL_from 109 = .ok (.istore 5, 2) := by decide +kernel
theorem dL_from_111 : decode cL_from 111 = .ok (.iload 5, 2) := by decide +kernel
theorem dL_from_113 : decode cL_from 113 = .ok (.aload_n 0, 1) := by decide +kernel
theorem dL_from_114 : decode cL_from 114 = .ok (.iconst 2, 1) := by decide +kernel
theorem dL_from_115 : decode cL_from 115 = .ok (.invokestatic 73, 3) := by decide +kernel
theorem dL_from_118 : decode cL_from 118 = .ok (.if_icmp .ge 51, 3) := by decide +kernel
theorem dL_from_121 : decode cL_from 121 = .ok (.iconst 0, 1) := by decide +kernel
theorem dL_from_122 : decode cL_from 122 = .ok (.istore 6, 2) := by decide +kernel
theorem dL_from_124 : decode cL_from 124 = .ok (.iload 6, 2) := by decide +kernel
theorem dL_from_126 : decode cL_from 126 = .ok (.bipush 10, 2) := by decide +kernel
theorem dL_from_128 : decode cL_from 128 = .ok (.if_icmp .ge 23, 3) := by decide +kernel
theorem dL_from_131 : decode cL_from 131 = .ok (.lload_n 3, 1) := by decide +kernel
theorem dL_from_132 : decode cL_from 132 = .ok (.aload_n 0, 1) := by decide +kernel
theorem dL_from_133 : decode cL_from 133 = .ok (.iload 5, 2) := by decide +kernel
theorem dL_from_135 : decode cL_from 135 = .ok (.iload 6, 2) := by decide +kernel
theorem dL_from_137 : decode cL_from 137 = .ok (.invokestatic 90, 3) := by decide +kernel
theorem dL_from_140 : decode cL_from 140 = .ok (.i2l, 1) := by decide +kernel
theorem dL_from_141 : decode cL_from 141 = .ok (.invokestatic 79, 3) := by decide +kernel
theorem dL_from_144 : decode cL_from 144 = .ok (.lstore_n 3, 1) := by decide +kernel
theorem dL_from_145 : decode cL_from 145 = .ok (.iinc 6 1, 3) := by decide +kernel
theorem dL_from_148 : decode cL_from 148 = .ok (.goto (-24), 3) := by decide +kernel
theorem dL_from_151 : decode cL_from 151 = .ok (.lload_n 3, 1) := by decide +kernel
theorem dL_from_152 : decode cL_from 152 = .ok (.aload_n 0, 1) := by decide +kernel
theorem dL_from_153 : decode cL_from 153 = .ok (.iload 5, 2) := by decide +kernel
theorem dL_from_155 : decode cL_from 155 = .ok (.invokestatic 93, 3) := by decide +kernel
theorem dL_from_158 : decode cL_from 158 = .ok (.i2l, 1) := by decide +kernel
theorem dL_from_159 : decode cL_from 159 = .ok (.invokestatic 79, 3) := by decide +kernel
theorem dL_from_162 : decode cL_from 162 = .ok (.lstore_n 3, 1) := by decide +kernel
theorem dL_from_163 : decode cL_from 163 = .ok (.iinc 5 1, 3) := by decide +kernel
theorem dL_from_166 : decode cL_from 166 = .ok (.goto (-55), 3) := by decide +kernel
theorem dL_from_169 : decode cL_from 169 = .ok (.iconst 0, 1) := by decide +kernel
theorem dL_from_170 : decode cL_from 170 = .ok (.istore 5, 2) := by decide +kernel
theorem dL_from_172 : decode cL_from 172 = .ok (.iload 5, 2) := by decide +kernel
theorem dL_from_174 : decode cL_from 174 = .ok (.bipush 30, 2) := by decide +kernel
theorem dL_from_176 : decode cL_from 176 = .ok (.if_icmp .ge 43, 3) := by decide +kernel
theorem dL_from_179 : decode cL_from 179 = .ok (.aload_n 0, 1) := by decide +kernel
theorem dL_from_180 : decode cL_from 180 = .ok (.iload 5, 2) := by decide +kernel
theorem dL_from_182 : decode cL_from 182 = .ok (.iconst 0, 1) := by decide +kernel
theorem dL_from_183 : decode cL_from 183 = .ok (.invokestatic 96, 3) := by decide +kernel
theorem dL_from_186 : decode cL_from 186 = .ok (.ifCond .lt 33, 3) := by decide +kernel
theorem dL_from_189 : decode cL_from 189 = .ok (.lload_n 3, 1) := by decide +kernel
theorem dL_from_190 : decode cL_from 190 = .ok (.aload_n 0, 1) := by decide +kernel
theorem dL_from_191 : decode cL_from 191 = .ok (.iload 5, 2) := by decide +kernel
theorem dL_from_193 : decode cL_from 193 = .ok (.iconst 0, 1) := by decide +kernel
theorem dL_from_194 : decode cL_from 194 = .ok (.invokestatic 96, 3) := by decide +kernel
theorem dL_from_197 : decode cL_from 197 = .ok (.i2l, 1) := by decide +kernel
theorem dL_from_198 : decode cL_from 198 = .ok (.invokestatic 79, 3) := by decide +kernel
theorem dL_from_201 : decode cL_from 201 = .ok (.aload_n 0, 1) := by decide +kernel
theorem dL_from_202 : decode cL_from 202 = .ok (.iload 5, 2) := by decide +kernel
theorem dL_from_204 : decode cL_from 204 = .ok (.iconst 1, 1) := by decide +kernel
theorem dL_from_205 : decode cL_from 205 = .ok (.invokestatic 96, 3) := by decide +kernel
theorem dL_from_208 : decode cL_from 208 = .ok (.i2l, 1) := by decide +kernel
theorem dL_from_209 : decode cL_from 209 = .ok (.invokestatic 79, 3) := by decide +kernel
theorem dL_from_212 : decode cL_from 212 = .ok (.lstore_n 3, 1) := by decide +kernel
theorem dL_from_213 : decode cL_from 213 = .ok (.iinc 5 1, 3) := by decide +kernel
theorem dL_from_216 : decode cL_from 216 = .ok (.goto (-44), 3) := by decide +kernel
theorem dL_from_219 : decode cL_from 219 = .ok (.lload_n 3, 1) := by decide +kernel
theorem dL_from_220 : decode cL_from 220 = .ok (.aload_n 0, 1) := by decide +kernel
theorem dL_from_221 : decode cL_from 221 = .ok (.invokevirtual 99, 3) := by decide +kernel
theorem dL_from_224 : decode cL_from 224 = .ok (.i2l, 1) := by decide +kernel
theorem dL_from_225 : decode cL_from 225 = .ok (.invokestatic 79, 3) := by decide +kernel
theorem dL_from_228 : decode cL_from 228 = .ok (.lreturn, 1) := by decide +kernel
set_option maxRecDepth 20000 in
theorem ggL_isDigest_L_mixed : GoodIn wsL_isDigest wsL_mixed := goodIn_r _ [5, 6] (by decide +kernel) (by decide +kernel)
set_option maxRecDepth 20000 in
theorem gL_isDigest_L_mixed : GoodIn wsL_isDigest (va_wsS RL 79 yL_mixed wsL_mixed) := goodIn_app (goodIn_of _ (by decide +kernel)) ggL_isDigest_L_mixed
set_option maxRecDepth 20000 in
theorem ggL_isDigest_L_from : GoodIn wsL_isDigest wsL_from := goodIn_ca (goodIn_ca (goodIn_r _ [9, 10, 11, 4, 12, 13, 14, 15, 16, 17, 18, 19, 20, 21, 22, 23, 24, 25, 26, 27, 28, 29, 30, 31, 32, 33, 34, 35, 36, 37, 38, 39, 40, 41, 42, 43, 44, 45, 46, 47, 48, 49, 50, 51, 52, 53, 54, 55, 56, 57, 2, 3, 5, 6, 58, 59, 60, 61, 62, 63, 64, 65, 66, 67, 68, 69, 70, 71, 72, 73, 74, 75, 76, 77, 78, 79, 80, 81, 82, 83, 84, 85, 86, 87, 88, 89, 90, 91, 92, 93, 94, 95, 96, 97, 98, 99, 100, 101, 102, 103, 104, 105, 106, 107, 108, 109, 110, 111, 112, 113, 114, 115, 116, 117, 118, 119, 120, 121, 122, 123, 124, 125, 126, 127, 128, 129, 130, 131, 132, 133, 134, 135, 136, 137, 138, 139, 140, 141, 142, 143, 144, 145, 146, 147, 148, 149, 150, 151, 152, 153, 154, 155, 156, 157, 158, 159, 160, 161, 162, 163, 164, 165, 166, 167, 168, 169, 170, 171, 172, 173, 174, 175, 176, 177, 178, 179, 180, 181, 182, 183, 184, 185, 186, 187, 188, 189, 190, 191, 192, 193, 194, 195, 196, 197, 198, 199, 200, 201, 202, 203, 204, 205, 206, 207, 208, 209, 210, 211, 212, 213, 214, 215, 216, 217, 218, 219, 220, 221, 222, 223, 224, 225, 226, 227, 228, 229, 230, 231, 232, 233, 234, 235, 236, 237, 238, 239, 240, 241, 242, 243, 244, 245, 246, 247, 248, 249, 250, 251, 252, 253, 254, 255, 256, 257, 258, 259, 260, 261, 262, 263, 264, 265, 266, 267, 268, 269, 270, 271, 272, 273, 274, 275, 276, 277, 278, 279, 280, 281, 282, 283, 284, 285, 286, 287, 288, 289, 290, 325, 326, 327, 328, 329, 330, 331, 332, 333, 334, 335, 336, 337, 338, 339, 340, 341, 342, 343, 344, 345, 346, 347, 348, 349, 350, 351, 352] (by decide +kernel) (by decide +kernel)) (goodIn_sub (fun _ h => List.mem_cons_of_mem _ (List.mem_append_left _ (List.mem_append_right _ h))) (by decide +kernel))) (goodIn_sub (fun _ h => List.mem_cons_of_mem _ (List.mem_append_right _ h)) (by decide +kernel))
set_option maxRecDepth 20000 in
theorem gL_isDigest_L_from : GoodIn wsL_isDigest (va_wsS RL 104 yL_from wsL_from) := goodIn_app (goodIn_of _ (by decide +kernel)) ggL_isDigest_L_from
set_option maxRecDepth 20000 in
theorem ggL_isDigest_X4_digest : GoodIn wsL_isDigest wsX4_digest := goodIn_ca (goodIn_ca (goodIn_r _ [294, 295, 296, 297, 21, 27, 298, 299, 300, 17, 301, 302, 303, 15, 16, 18, 19, 20, 22, 23, 24, 25, 26, 28, 29, 30, 31, 32, 33, 34, 35, 36, 37, 38, 39, 40, 41, 42, 43, 44, 45, 46, 47, 48, 49, 50, 51, 52, 53, 54, 55, 56, 57, 304, 305, 306, 307, 308, 63, 64, 65, 66, 67, 68, 69, 70, 71, 72, 73, 74, 75, 76, 77, 78, 79, 309, 310, 311, 312, 313, 84, 85, 86, 87, 88, 89, 90, 91, 92, 93, 94, 95, 96, 97, 98, 99, 100, 101, 102, 103, 104, 105, 106, 107, 108, 109, 110, 111, 112, 113, 114, 115, 116, 314, 315, 316, 317, 318, 121, 122, 123, 124, 125, 126, 127, 128, 129, 130, 131, 132, 133, 134, 135, 136, 137, 138, 139, 140, 141, 142, 143, 144, 145, 146, 319, 151, 152, 153, 154, 155, 156, 157, 158, 159, 160, 161, 162, 163, 164, 165, 166, 167, 168, 169, 170, 171, 172, 320, 321, 322, 323, 182, 183, 184, 185, 186, 187, 188, 324, 177, 178, 179, 180, 181, 189, 194, 195, 196, 197, 198, 199, 200, 201, 202, 203, 204, 205, 206, 207, 208, 209, 210, 211, 212, 213, 214, 215, 216, 217, 218, 219, 220, 221, 222, 223, 224, 225, 226, 227, 228, 229, 230, 231, 232, 233, 234, 235, 236, 237, 238, 239, 240, 241, 242, 243, 244, 245, 246, 247, 248, 249, 250, 251, 252, 253, 254, 255, 256, 257, 258, 259, 260, 261, 262, 263, 264, 265, 266, 267, 268, 269, 270, 271, 272, 273, 274, 275, 276, 277, 278, 279, 280, 281, 282, 283, 284, 285, 286, 287, 288, 289, 290, 325, 326, 327, 328, 329, 353, 354, 330, 331, 332, 333, 334, 335, 336, 337, 338, 339, 340, 341, 342, 343, 344, 345, 346, 347, 348, 349, 350, 351, 352] (by decide +kernel) (by decide +kernel)) (goodIn_sub (fun _ h => List.mem_cons_of_mem _ (List.mem_append_left _ (List.mem_append_right _ h))) (by decide +kernel))) (goodIn_sub (fun _ h => List.mem_cons_of_mem _ (List.mem_append_right _ h)) (by decide +kernel))
set_option maxRecDepth 20000 in
theorem gL_isDigest_X4_digest : GoodIn wsL_isDigest (wsV RL 108 RX4 yX4_digest wsX4_digest) := goodIn_app (goodIn_of _ (by decide +kernel)) ggL_isDigest_X4_digest
theorem dL_isDigest_0 : decode cL_isDigest 0 = .ok (.aload_n 0, 1) := by decide +kernel
theorem dL_isDigest_1 : decode cL_isDigest 1 = .ok (.ldc2_w 102, 3) := by decide +kernel
theorem dL_isDigest_4 : decode cL_isDigest 4 = .ok (.iload_n 1, 1) := by decide +kernel
theorem dL_isDigest_5 : decode cL_isDigest 5 = .ok (.i2l, 1) := by decide +kernel
theorem dL_isDigest_6 : decode cL_isDigest 6 = .ok (.invokestatic 79, 3) := by decide +kernel
theorem dL_isDigest_9 : decode cL_isDigest 9 = .ok (.invokestatic 104, 3) := by decide +kernel
theorem dL_isDigest_12 : decode cL_isDigest 12 = .ok (.iload_n 2, 1) := by decide +kernel
theorem dL_isDigest_13 : decode cL_isDigest 13 = .ok (.i2l, 1) := by decide +kernel
theorem dL_isDigest_14 : decode cL_isDigest 14 = .ok (.invokestatic 79, 3) := by decide +kernel
theorem dL_isDigest_17 : decode cL_isDigest 17 = .ok (.aload_n 0, 1) := by decide +kernel
theorem dL_isDigest_18 : decode cL_isDigest 18 = .ok (.invokevirtual 108, 3) := by decide +kernel
theorem dL_isDigest_21 : decode cL_isDigest 21 = .ok (.lcmp, 1) := by decide +kernel
theorem dL_isDigest_22 : decode cL_isDigest 22 = .ok (.ifCond .ne 7, 3) := by decide +kernel
theorem dL_isDigest_25 : decode cL_isDigest 25 = .ok (.iconst 1, 1) := by decide +kernel
theorem dL_isDigest_26 : decode cL_isDigest 26 = .ok (.goto 4, 3) := by decide +kernel
theorem dL_isDigest_29 : decode cL_isDigest 29 = .ok (.iconst 0, 1) := by decide +kernel
theorem dL_isDigest_30 : decode cL_isDigest 30 = .ok (.ireturn, 1) := by decide +kernel
set_option maxRecDepth 20000 in
theorem ggL_refusesPlaces_L_all : GoodIn wsL_refusesPlaces wsL_all := goodIn_ca (goodIn_r _ [4, 5, 6, 7, 8, 9, 10, 11, 12, 13, 14, 15, 16, 17, 18, 19, 20, 21, 22, 23, 24, 25, 26, 27, 28, 29, 30, 31, 32, 33, 34, 35, 36, 37, 38, 39, 40, 41, 42, 43, 44, 45, 46, 47, 48, 49, 350, 351, 352, 353, 354, 355, 356, 357, 358, 359, 360, 361, 362, 363, 364, 365, 366, 367, 368, 369, 370, 371, 372, 373, 374, 375, 376, 377] (by decide +kernel) (by decide +kernel)) (goodIn_sub (fun _ h => List.mem_cons_of_mem _ (List.mem_append_left _ (List.mem_append_left _ (List.mem_append_right _ h)))) (by decide +kernel))
set_option maxRecDepth 20000 in
theorem gL_refusesPlaces_L_all : GoodIn wsL_refusesPlaces (va_wsS RL 73 yL_all wsL_all) := goodIn_app (goodIn_of _ (by decide +kernel)) ggL_refusesPlaces_L_all
set_option maxRecDepth 20000 in
theorem ggL_refusesPlaces_L_adding : GoodIn wsL_refusesPlaces wsL_adding := goodIn_ca (goodIn_ca (goodIn_r _ [52, 53, 54, 55, 56, 57, 9, 58, 59, 60, 13, 17, 61, 62, 63, 64, 65, 66, 14, 16, 67, 68, 69, 24, 70, 71, 37, 38, 72, 73, 74, 42, 75, 76, 77, 78, 79, 80, 81, 36, 82, 83, 84, 85, 86, 87, 88, 89, 90, 91, 92, 93, 94, 95, 96, 97, 98, 99, 100, 101, 102, 103, 27, 104, 105, 26, 106, 107, 108, 109, 45, 110, 111, 112, 44, 113, 114, 115, 116, 117, 118, 119, 120, 121, 122, 123, 124, 125, 126, 127, 128, 129, 130, 131, 132, 133, 134, 135, 136, 137, 138, 350, 351, 352, 353, 354, 355, 356, 357, 358, 359, 360, 361, 362, 363, 364, 365, 366, 367, 368, 369, 370, 371, 372, 373, 374, 375, 376, 377] (by decide +kernel) (by decide +kernel)) (goodIn_sub (fun _ h => List.mem_cons_of_mem _ (List.mem_append_left _ (List.mem_append_right _ h))) (by decide +kernel))) (goodIn_sub (fun _ h => List.mem_cons_of_mem _ (List.mem_append_right _ h)) (by decide +kernel))
set_option maxRecDepth 20000 in
theorem gL_refusesPlaces_L_adding : GoodIn wsL_refusesPlaces (va_wsS RL 112 yL_adding wsL_adding) := goodIn_app (goodIn_of _ (by decide +kernel)) ggL_refusesPlaces_L_adding
set_option maxRecDepth 20000 in
theorem ggL_refusesPlaces_L_rescuing : GoodIn wsL_refusesPlaces wsL_rescuing := goodIn_ca (goodIn_ca (goodIn_r _ [141, 53, 54, 142, 143, 144, 9, 145, 59, 60, 13, 146, 147, 148, 14, 149, 150, 151, 152, 153, 65, 66, 17, 88, 89, 90, 91, 92, 93, 94, 95, 96, 24, 97, 71, 37, 98, 99, 100, 101, 102, 103, 27, 104, 36, 105, 26, 106, 107, 108, 42, 109, 45, 110, 111, 112, 76, 44, 77, 113, 114, 115, 116, 117, 118, 119, 120, 121, 122, 123, 124, 125, 154, 155, 156, 157, 87, 82, 158, 136, 137, 138, 350, 351, 352, 353, 354, 355, 356, 357, 358, 359, 360, 361, 362, 363, 370, 371, 372, 373, 374, 375, 376, 377, 364, 365, 366, 367, 368, 369] (by decide +kernel) (by decide +kernel)) (goodIn_sub (fun _ h => List.mem_cons_of_mem _ (List.mem_append_left _ (List.mem_append_right _ h))) (by decide +kernel))) (goodIn_sub (fun _ h => List.mem_cons_of_mem _ (List.mem_append_right _ h)) (by decide +kernel))
set_option maxRecDepth 20000 in
theorem gL_refusesPlaces_L_rescuing : GoodIn wsL_refusesPlaces (va_wsS RL 115 yL_rescuing wsL_rescuing) := goodIn_app (goodIn_of _ (by decide +kernel)) ggL_refusesPlaces_L_rescuing
set_option maxRecDepth 20000 in
theorem ggL_refusesPlaces_L_setting : GoodIn wsL_refusesPlaces wsL_setting := goodIn_ca (goodIn_ca (goodIn_r _ [161, 53, 5, 162, 163, 164, 9, 165, 65, 66, 11, 12, 166, 167, 13, 19, 88, 89, 90, 91, 92, 93, 94, 95, 96, 24, 97, 71, 37, 98, 99, 100, 101, 102, 103, 27, 104, 36, 105, 26, 106, 107, 108, 42, 109, 45, 110, 111, 112, 76, 44, 77, 113, 114, 115, 116, 117, 118, 119, 120, 121, 122, 123, 124, 125, 350, 351, 352, 353, 354, 355, 356, 357, 358, 359, 360, 361, 362, 363, 364, 365, 366, 367, 368, 369, 370, 371, 372, 373, 374, 375, 376, 377] (by decide +kernel) (by decide +kernel)) (goodIn_sub (fun _ h => List.mem_cons_of_mem _ (List.mem_append_right _ h)) (by decide +kernel))) (goodIn_sub (fun _ h => List.mem_cons_of_mem _ (List.mem_append_left _ (List.mem_append_left _ (List.mem_append_right _ h)))) (by decide +kernel))
set_option maxRecDepth 20000 in
theorem gL_refusesPlaces_L_setting : GoodIn wsL_refusesPlaces (va_wsS RL 118 yL_setting wsL_setting) := goodIn_app (goodIn_of _ (by decide +kernel)) ggL_refusesPlaces_L_setting
set_option maxRecDepth 20000 in
theorem ggL_refusesPlaces_L_heighten : GoodIn wsL_refusesPlaces wsL_heighten := goodIn_ca (goodIn_ca (goodIn_r _ [170, 53, 5, 171, 172, 173, 9, 174, 11, 12, 13, 14, 175, 176, 177, 178, 179, 65, 66, 15, 88, 89, 90, 91, 92, 93, 94, 95, 96, 24, 97, 71, 37, 98, 99, 100, 101, 102, 103, 27, 104, 36, 105, 26, 106, 107, 108, 42, 109, 45, 110, 111, 112, 76, 44, 77, 113, 114, 115, 116, 117, 118, 119, 120, 121, 122, 123, 124, 125, 350, 351, 352, 353, 354, 355, 356, 357, 358, 359, 360, 361, 362, 363, 364, 365, 366, 367, 368, 369, 370, 371, 372, 373, 374, 375, 376, 377] (by decide +kernel) (by decide +kernel)) (goodIn_sub (fun _ h => List.mem_cons_of_mem _ (List.mem_append_left _ (List.mem_append_left _ (List.mem_append_right _ h)))) (by decide +kernel))) (goodIn_sub (fun _ h => List.mem_cons_of_mem _ (List.mem_append_right _ h)) (by decide +kernel))
set_option maxRecDepth 20000 in
theorem gL_refusesPlaces_L_heighten : GoodIn wsL_refusesPlaces (va_wsS RL 121 yL_heighten wsL_heighten) := goodIn_app (goodIn_of _ (by decide +kernel)) ggL_refusesPlaces_L_heighten
set_option maxRecDepth 20000 in
theorem ggL_refusesPlaces_L_trainBy : GoodIn wsL_refusesPlaces wsL_trainBy := goodIn_ca (goodIn_ca (goodIn_r _ [182, 53, 5, 183, 184, 185, 9, 186, 11, 12, 13, 146, 148, 187, 188, 189, 147, 190, 191, 192, 150, 151, 152, 153, 65, 66, 17, 154, 155, 156, 24, 157, 71, 87, 82, 193, 194, 195, 196, 197, 98, 350, 351, 352, 353, 354, 355, 356, 357, 358, 359, 360, 361, 362, 363, 370, 371, 372, 373, 374, 375, 376, 377, 364, 365, 366, 367, 368, 369] (by decide +kernel) (by decide +kernel)) (goodIn_sub (fun _ h => List.mem_cons_of_mem _ (List.mem_append_left _ (List.mem_append_left _ (List.mem_append_right _ h)))) (by decide +kernel))) (goodIn_sub (fun _ h => List.mem_cons_of_mem _ (List.mem_append_right _ h)) (by decide +kernel))
set_option maxRecDepth 20000 in
theorem gL_refusesPlaces_L_trainBy : GoodIn wsL_refusesPlaces (va_wsS RL 90 yL_trainBy wsL_trainBy) := goodIn_app (goodIn_of _ (by decide +kernel)) ggL_refusesPlaces_L_trainBy
set_option maxRecDepth 20000 in
theorem ggL_refusesPlaces_L_cellBy : GoodIn wsL_refusesPlaces wsL_cellBy := goodIn_ca (goodIn_ca (goodIn_r _ [200, 53, 5, 201, 202, 203, 9, 204, 11, 12, 13, 14, 175, 205, 206, 176, 177, 178, 179, 65, 66, 15, 207, 79, 80, 24, 81, 36, 37, 82, 350, 351, 352, 353, 354, 355, 356, 357, 358, 359, 360, 361, 362, 363, 364, 365, 366, 367, 368, 369, 370, 371, 372, 373, 374, 375, 376, 377] (by decide +kernel) (by decide +kernel)) (goodIn_sub (fun _ h => List.mem_cons_of_mem _ (List.mem_append_left _ (List.mem_append_left _ (List.mem_append_right _ h)))) (by decide +kernel))) (goodIn_sub (fun _ h => List.mem_cons_of_mem _ (List.mem_append_right _ h)) (by decide +kernel))
set_option maxRecDepth 20000 in
theorem gL_refusesPlaces_L_cellBy : GoodIn wsL_refusesPlaces (va_wsS RL 83 yL_cellBy wsL_cellBy) := goodIn_app (goodIn_of _ (by decide +kernel)) ggL_refusesPlaces_L_cellBy
set_option maxRecDepth 20000 in
theorem ggL_refusesPlaces_L_blockBy : GoodIn wsL_refusesPlaces wsL_blockBy := goodIn_ca (goodIn_ca (goodIn_r _ [210, 53, 5, 211, 212, 213, 9, 214, 11, 12, 13, 14, 149, 215, 61, 62, 63, 64, 65, 66, 16, 216, 217, 218, 42, 219, 220, 73, 74, 75, 76, 77, 221, 222, 223, 224, 44, 225, 226, 227, 228, 229, 84, 85, 24, 86, 36, 71, 87, 37, 82, 350, 351, 352, 353, 354, 355, 356, 357, 358, 359, 360, 361, 362, 363, 364, 365, 366, 367, 368, 369, 370, 371, 372, 373, 374, 375, 376, 377] (by decide +kernel) (by decide +kernel)) (goodIn_sub (fun _ h => List.mem_cons_of_mem _ (List.mem_append_left _ (List.mem_append_left _ (List.mem_append_right _ h)))) (by decide +kernel))) (goodIn_sub (fun _ h => List.mem_cons_of_mem _ (List.mem_append_right _ h)) (by decide +kernel))
set_option maxRecDepth 20000 in
theorem gL_refusesPlaces_L_blockBy : GoodIn wsL_refusesPlaces (va_wsS RL 87 yL_blockBy wsL_blockBy) := goodIn_app (goodIn_of _ (by decide +kernel)) ggL_refusesPlaces_L_blockBy
set_option maxRecDepth 20000 in
theorem ggL_refusesPlaces_L_reason : GoodIn wsL_refusesPlaces wsL_reason := goodIn_ca (goodIn_r _ [232, 53, 233, 234, 235, 9, 236, 13, 146, 150, 151, 152, 153, 65, 66, 17, 237, 238, 239, 24, 240, 38, 71, 241, 98, 26, 105, 242, 155, 156, 157, 87, 82, 243, 244, 245, 42, 246, 77, 247, 68, 69, 70, 37, 72, 73, 74, 75, 76, 78, 79, 80, 81, 36, 83, 84, 85, 86, 248, 22, 23, 25, 27, 28, 29, 30, 31, 350, 351, 352, 353, 354, 355, 356, 357, 358, 359, 360, 361, 362, 363, 370, 371, 372, 373, 374, 375, 376, 377, 364, 365, 366, 367, 368, 369] (by decide +kernel) (by decide +kernel)) (goodIn_sub (fun _ h => List.mem_cons_of_mem _ (List.mem_append_right _ h)) (by decide +kernel))
set_option maxRecDepth 20000 in
theorem gL_refusesPlaces_L_reason : GoodIn wsL_refusesPlaces (va_wsS RL 93 yL_reason wsL_reason) := goodIn_app (goodIn_of _ (by decide +kernel)) ggL_refusesPlaces_L_reason
set_option maxRecDepth 20000 in
theorem ggL_refusesPlaces_L_toStation : GoodIn wsL_refusesPlaces wsL_toStation := goodIn_ca (goodIn_r _ [251, 53, 252, 253, 254, 9, 255, 256, 13, 146, 192, 150, 151, 152, 153, 65, 66, 17, 94, 95, 96, 24, 97, 71, 37, 98, 99, 100, 101, 102, 103, 27, 104, 36, 105, 26, 106, 107, 108, 42, 109, 45, 110, 111, 112, 76, 44, 77, 113, 114, 115, 116, 117, 118, 119, 120, 121, 122, 123, 124, 125, 257, 258, 259, 260, 38, 261, 262, 263, 264, 241, 265, 238, 239, 240, 242, 155, 156, 157, 87, 82, 243, 244, 245, 246, 247, 68, 69, 70, 72, 73, 74, 75, 78, 79, 80, 81, 83, 84, 85, 86, 248, 22, 23, 25, 28, 29, 30, 31, 266, 267, 268, 269, 270, 271, 272, 273, 274, 275, 276, 277, 278, 279, 280, 281, 282, 283, 284, 285, 194, 195, 196, 197, 286, 287, 288, 289, 290, 291, 48, 292, 221, 222, 223, 224, 293, 294, 295, 296, 297, 298, 299, 300, 301, 302, 303, 304, 305, 306, 307, 136, 137, 138, 308, 309, 310, 311, 312, 313, 314, 315, 316, 317, 350, 351, 352, 353, 354, 355, 356, 357, 358, 359, 360, 361, 362, 363, 370, 371, 372, 373, 374, 375, 376, 377, 364, 365, 366, 367, 368, 369] (by decide +kernel) (by decide +kernel)) (goodIn_sub (fun _ h => List.mem_cons_of_mem _ (List.mem_append_right _ h)) (by decide +kernel))
set_option maxRecDepth 20000 in
theorem gL_refusesPlaces_L_toStation : GoodIn wsL_refusesPlaces (va_wsS RL 124 yL_toStation wsL_toStation) := goodIn_app (goodIn_of _ (by decide +kernel)) ggL_refusesPlaces_L_toStation
set_option maxRecDepth 20000 in
theorem ggL_refusesPlaces_L_least : GoodIn wsL_refusesPlaces wsL_least := goodIn_ca (goodIn_r _ [320, 53, 321, 322, 323, 9, 324, 13, 14, 19, 176, 177, 178, 179, 65, 66, 15, 325, 326, 327, 42, 328, 329, 330, 331, 332, 44, 111, 333, 287, 288, 289, 45, 290, 291, 48, 292, 221, 222, 223, 224, 334, 309, 310, 311, 350, 351, 352, 353, 354, 355, 356, 357, 358, 359, 360, 361, 362, 363, 364, 365, 366, 367, 368, 369] (by decide +kernel) (by decide +kernel)) (goodIn_sub (fun _ h => List.mem_cons_of_mem _ (List.mem_append_right _ h)) (by decide +kernel))
set_option maxRecDepth 20000 in
theorem gL_refusesPlaces_L_least : GoodIn wsL_refusesPlaces (va_wsS RL 127 yL_least wsL_least) := goodIn_app (goodIn_of _ (by decide +kernel)) ggL_refusesPlaces_L_least
set_option maxRecDepth 20000 in
theorem ggL_refusesPlaces_L_sent : GoodIn wsL_refusesPlaces wsL_sent := goodIn_ca (goodIn_ca (goodIn_r _ [337, 53, 5, 338, 339, 340, 9, 341, 65, 66, 11, 12, 13, 342, 343, 344, 345, 346, 24, 347, 26, 348, 291, 48, 292, 349, 29, 30, 31, 350, 351, 352, 353, 354, 355, 356, 357, 358, 359, 360, 361, 362, 363] (by decide +kernel) (by decide +kernel)) (goodIn_sub (fun _ h => List.mem_cons_of_mem _ (List.mem_append_right _ h)) (by decide +kernel))) (goodIn_sub (fun _ h => List.mem_cons_of_mem _ (List.mem_append_left _ (List.mem_append_left _ (List.mem_append_right _ h)))) (by decide +kernel))
set_option maxRecDepth 20000 in
theorem gL_refusesPlaces_L_sent : GoodIn wsL_refusesPlaces (va_wsS RL 96 yL_sent wsL_sent) := goodIn_app (goodIn_of _ (by decide +kernel)) ggL_refusesPlaces_L_sent
theorem dL_refusesPlaces_0 : decode cL_refusesPlaces 0 = .ok (.iconst 0, 1) := by decide +kernel
theorem dL_refusesPlaces_1 : decode cL_refusesPlaces 1 = .ok (.istore_n 1, 1) := by decide +kernel
theorem dL_refusesPlaces_2 : decode cL_refusesPlaces 2 = .ok (.iload_n 1, 1) := by decide +kernel
theorem dL_refusesPlaces_3 : decode cL_refusesPlaces 3 = .ok (.iconst 2, 1) := by decide +kernel
theorem dL_refusesPlaces_4 : decode cL_refusesPlaces 4 = .ok (.if_icmp .ge 309, 3) := by decide +kernel
theorem dL_refusesPlaces_7 : decode cL_refusesPlaces 7 = .ok (.iload_n 1, 1) := by decide +kernel
theorem dL_refusesPlaces_8 : decode cL_refusesPlaces 8 = .ok (.ifCond .ne 11, 3) := by decide +kernel
theorem dL_refusesPlaces_11 : decode cL_refusesPlaces 11 = .ok (.aload_n 0, 1) := by decide +kernel
theorem dL_refusesPlaces_12 : decode cL_refusesPlaces 12 = .ok (.iconst 0, 1) := by decide +kernel
theorem dL_refusesPlaces_13 : decode cL_refusesPlaces 13 = .ok (.invokestatic 73, 3) := by decide +kernel
theorem dL_refusesPlaces_16 : decode cL_refusesPlaces 16 = .ok (.goto 4, 3) := by decide +kernel
theorem dL_refusesPlaces_19 : decode cL_refusesPlaces 19 = .ok (.iconst (-1), 1) := by decide +kernel
theorem dL_refusesPlaces_20 : decode cL_refusesPlaces 20 = .ok (.istore_n 2, 1) := by decide +kernel
theorem dL_refusesPlaces_21 : decode cL_refusesPlaces 21 = .ok (.iload_n 1, 1) := by decide +kernel
theorem dL_refusesPlaces_22 : decode cL_refusesPlaces 22 = .ok (.ifCond .ne 11, 3) := by decide +kernel
theorem dL_refusesPlaces_25 : decode cL_refusesPlaces 25 = .ok (.aload_n 0, 1) := by decide +kernel
theorem dL_refusesPlaces_26 : decode cL_refusesPlaces 26 = .ok (.iconst 1, 1) := by decide +kernel
theorem dL_refusesPlaces_27 : decode cL_refusesPlaces 27 = .ok (.invokestatic 73, 3) := by decide +kernel
theorem dL_refusesPlaces_30 : decode cL_refusesPlaces 30 = .ok (.goto 4, 3) := by decide +kernel
theorem dL_refusesPlaces_33 : decode cL_refusesPlaces 33 = .ok (.iconst (-1), 1) := by decide +kernel
theorem dL_refusesPlaces_34 : decode cL_refusesPlaces 34 = .ok (.istore_n 3, 1) := by decide +kernel
theorem dL_refusesPlaces_35 : decode cL_refusesPlaces 35 = .ok (.iload_n 1, 1) := by decide +kernel
theorem dL_refusesPlaces_36 : decode cL_refusesPlaces 36 = .ok (.ifCond .ne 11, 3) := by decide +kernel
theorem dL_refusesPlaces_39 : decode cL_refusesPlaces 39 = .ok (.aload_n 0, 1) := by decide +kernel
theorem dL_refusesPlaces_40 : decode cL_refusesPlaces 40 = .ok (.iconst 2, 1) := by decide +kernel
theorem dL_refusesPlaces_41 : decode cL_refusesPlaces 41 = .ok (.invokestatic 73, 3) := by decide +kernel
theorem dL_refusesPlaces_44 : decode cL_refusesPlaces 44 = .ok (.goto 4, 3) := by decide +kernel
theorem dL_refusesPlaces_47 : decode cL_refusesPlaces 47 = .ok (.iconst (-1), 1) := by decide +kernel
theorem dL_refusesPlaces_48 : decode cL_refusesPlaces 48 = .ok (.istore 4, 2) := by decide +kernel
theorem dL_refusesPlaces_50 : decode cL_refusesPlaces 50 = .ok (.aload_n 0, 1) := by decide +kernel
theorem dL_refusesPlaces_51 : decode cL_refusesPlaces 51 = .ok (.iload_n 3, 1) := by decide +kernel
theorem dL_refusesPlaces_52 : decode cL_refusesPlaces 52 = .ok (.invokestatic 112, 3) := by decide +kernel
theorem dL_refusesPlaces_55 : decode cL_refusesPlaces 55 = .ok (.sipush (-3001), 3) := by decide +kernel
theorem dL_refusesPlaces_58 : decode cL_refusesPlaces 58 = .ok (.if_icmp .ne 147, 3) := by decide +kernel
theorem dL_refusesPlaces_61 : decode cL_refusesPlaces 61 = .ok (.aload_n 0, 1) := by decide +kernel
theorem dL_refusesPlaces_62 : decode cL_refusesPlaces 62 = .ok (.iload 4, 2) := by decide +kernel
theorem dL_refusesPlaces_64 : decode cL_refusesPlaces 64 = .ok (.invokestatic 115, 3) := by decide +kernel
theorem dL_refusesPlaces_67 : decode cL_refusesPlaces 67 = .ok (.sipush (-3001), 3) := by decide +kernel
theorem dL_refusesPlaces_70 : decode cL_refusesPlaces 70 = .ok (.if_icmp .ne 135, 3) := by decide +kernel
theorem dL_refusesPlaces_73 : decode cL_refusesPlaces 73 = .ok (.aload_n 0, 1) := by decide +kernel
theorem dL_refusesPlaces_74 : decode cL_refusesPlaces 74 = .ok (.iload_n 1, 1) := by decide +kernel
theorem dL_refusesPlaces_75 : decode cL_refusesPlaces 75 = .ok (.ifCond .ne 7, 3) := by decide +kernel
theorem dL_refusesPlaces_78 : decode cL_refusesPlaces 78 = .ok (.iconst 4, 1) := by decide +kernel
theorem dL_refusesPlaces_79 : decode cL_refusesPlaces 79 = .ok (.goto 4, 3) := by decide +kernel
theorem dL_refusesPlaces_82 : decode cL_refusesPlaces 82 = .ok (.iconst (-1), 1) := by decide +kernel
theorem dL_refusesPlaces_83 : decode cL_refusesPlaces 83 = .ok (.sipush 999, 3) := by decide +kernel
theorem dL_refusesPlaces_86 : decode cL_refusesPlaces 86 = .ok (.invokestatic 118, 3) := by decide +kernel
theorem dL_refusesPlaces_89 : decode cL_refusesPlaces 89 = .ok (.sipush (-3001), 3) := by decide +kernel
theorem dL_refusesPlaces_92 : decode cL_refusesPlaces 92 = .ok (.if_icmp .ne 113, 3) := by decide +kernel
theorem dL_refusesPlaces_95 : decode cL_refusesPlaces 95 = .ok (.aload_n 0, 1) := by decide +kernel
theorem dL_refusesPlaces_96 : decode cL_refusesPlaces 96 = .ok (.iload_n 2, 1) := by decide +kernel
theorem dL_refusesPlaces_97 : decode cL_refusesPlaces 97 = .ok (.bipush 99, 2) := by decide +kernel
theorem dL_refusesPlaces_99 : decode cL_refusesPlaces 99 = .ok (.invokestatic 121, 3) := by decide +kernel
theorem dL_refusesPlaces_102 : decode cL_refusesPlaces 102 = .ok (.sipush (-3001), 3) := by decide +kernel
theorem dL_refusesPlaces_105 : decode cL_refusesPlaces 105 = .ok (.if_icmp .ne 100, 3) := by decide +kernel
theorem dL_refusesPlaces_108 : decode cL_refusesPlaces 108 = .ok (.aload_n 0, 1) := by decide +kernel
theorem dL_refusesPlaces_109 : decode cL_refusesPlaces 109 = .ok (.iload 4, 2) := by decide +kernel
theorem dL_refusesPlaces_111 : decode cL_refusesPlaces 111 = .ok (.bipush 99, 2) := by decide +kernel
theorem dL_refusesPlaces_113 : decode cL_refusesPlaces 113 = .ok (.invokestatic 90, 3) := by decide +kernel
theorem dL_refusesPlaces_116 : decode cL_refusesPlaces 116 = .ok (.sipush (-3001), 3) := by decide +kernel
theorem dL_refusesPlaces_119 : decode cL_refusesPlaces 119 = .ok (.if_icmp .ne 86, 3) := by decide +kernel
theorem dL_refusesPlaces_122 : decode cL_refusesPlaces 122 = .ok (.aload_n 0, 1) := by decide +kernel
theorem dL_refusesPlaces_123 : decode cL_refusesPlaces 123 = .ok (.iload_n 2, 1) := by decide +kernel
theorem dL_refusesPlaces_124 : decode cL_refusesPlaces 124 = .ok (.bipush 99, 2) := by decide +kernel
theorem dL_refusesPlaces_126 : decode cL_refusesPlaces 126 = .ok (.invokestatic 83, 3) := by decide +kernel
theorem dL_refusesPlaces_129 : decode cL_refusesPlaces 129 = .ok (.sipush (-3001), 3) := by decide +kernel
theorem dL_refusesPlaces_132 : decode cL_refusesPlaces 132 = .ok (.if_icmp .ne 73, 3) := by decide +kernel
theorem dL_refusesPlaces_135 : decode cL_refusesPlaces 135 = .ok (.aload_n 0, 1) := by decide +kernel
theorem dL_refusesPlaces_136 : decode cL_refusesPlaces 136 = .ok (.iload_n 3, 1) := by decide +kernel
theorem dL_refusesPlaces_137 : decode cL_refusesPlaces 137 = .ok (.bipush 99, 2) := by decide +kernel
theorem dL_refusesPlaces_139 : decode cL_refusesPlaces 139 = .ok (.invokestatic 87, 3) := by decide +kernel
theorem dL_refusesPlaces_142 : decode cL_refusesPlaces 142 = .ok (.sipush (-3001), 3) := by decide +kernel
theorem dL_refusesPlaces_145 : decode cL_refusesPlaces 145 = .ok (.if_icmp .ne 60, 3) := by decide +kernel
theorem dL_refusesPlaces_148 : decode cL_refusesPlaces 148 = .ok (.aload_n 0, 1) := by decide +kernel
theorem dL_refusesPlaces_149 : decode cL_refusesPlaces 149 = .ok (.iload 4, 2) := by decide +kernel
theorem dL_refusesPlaces_151 : decode cL_refusesPlaces 151 = .ok (.invokestatic 93, 3) := by decide +kernel
theorem dL_refusesPlaces_154 : decode cL_refusesPlaces 154 = .ok (.sipush (-3001), 3) := by decide +kernel
theorem dL_refusesPlaces_157 : decode cL_refusesPlaces 157 = .ok (.if_icmp .ne 48, 3) := by decide +kernel
theorem dL_refusesPlaces_160 : decode cL_refusesPlaces 160 = .ok (.aload_n 0, 1) := by decide +kernel
theorem dL_refusesPlaces_161 : decode cL_refusesPlaces 161 = .ok (.iload 4, 2) := by decide +kernel
theorem dL_refusesPlaces_163 : decode cL_refusesPlaces 163 = .ok (.invokestatic 124, 3) := by decide +kernel
theorem dL_refusesPlaces_166 : decode cL_refusesPlaces 166 = .ok (.sipush (-3001), 3) := by decide +kernel
theorem dL_refusesPlaces_169 : decode cL_refusesPlaces 169 = .ok (.if_icmp .ne 36, 3) := by decide +kernel
theorem dL_refusesPlaces_172 : decode cL_refusesPlaces 172 = .ok (.aload_n 0, 1) := by decide +kernel
theorem dL_refusesPlaces_173 : decode cL_refusesPlaces 173 = .ok (.iload_n 2, 1) := by decide +kernel
theorem dL_refusesPlaces_174 : decode cL_refusesPlaces 174 = .ok (.invokestatic 127, 3) := by decide +kernel
theorem dL_refusesPlaces_177 : decode cL_refusesPlaces 177 = .ok (.sipush (-3001), 3) := by decide +kernel
theorem dL_refusesPlaces_180 : decode cL_refusesPlaces 180 = .ok (.if_icmp .ne 25, 3) := by decide +kernel
theorem dL_refusesPlaces_183 : decode cL_refusesPlaces 183 = .ok (.aload_n 0, 1) := by decide +kernel
theorem dL_refusesPlaces_184 : decode cL_refusesPlaces 184 = .ok (.iload_n 1, 1) := by decide +kernel
theorem dL_refusesPlaces_185 : decode cL_refusesPlaces 185 = .ok (.ifCond .ne 8, 3) := by decide +kernel
theorem dL_refusesPlaces_188 : decode cL_refusesPlaces 188 = .ok (.bipush 30, 2) := by decide +kernel
theorem dL_refusesPlaces_190 : decode cL_refusesPlaces 190 = .ok (.goto 4, 3) := by decide +kernel
theorem dL_refusesPlaces_193 : decode cL_refusesPlaces 193 = .ok (.iconst (-1), 1) := by decide +kernel
theorem dL_refusesPlaces_194 : decode cL_refusesPlaces 194 = .ok (.bipush 9, 2) := by decide +kernel
theorem dL_refusesPlaces_196 : decode cL_refusesPlaces 196 = .ok (.invokestatic 96, 3) := by decide +kernel
theorem dL_refusesPlaces_199 : decode cL_refusesPlaces 199 = .ok (.sipush (-3001), 3) := by decide +kernel
theorem dL_refusesPlaces_202 : decode cL_refusesPlaces 202 = .ok (.if_icmp .eq 5, 3) := by decide +kernel
theorem dL_refusesPlaces_205 : decode cL_refusesPlaces 205 = .ok (.iconst 0, 1) := by decide +kernel
theorem dL_refusesPlaces_206 : decode cL_refusesPlaces 206 = .ok (.ireturn, 1) := by decide +kernel
theorem dL_refusesPlaces_207 : decode cL_refusesPlaces 207 = .ok (.aload_n 0, 1) := by decide +kernel
theorem dL_refusesPlaces_208 : decode cL_refusesPlaces 208 = .ok (.iconst 0, 1) := by decide +kernel
theorem dL_refusesPlaces_209 : decode cL_refusesPlaces 209 = .ok (.iload_n 1, 1) := by decide +kernel
theorem dL_refusesPlaces_210 : decode cL_refusesPlaces 210 = .ok (.ifCond .ne 7, 3) := by decide +kernel
theorem dL_refusesPlaces_213 : decode cL_refusesPlaces 213 = .ok (.iconst 4, 1) := by decide +kernel
theorem dL_refusesPlaces_214 : decode cL_refusesPlaces 214 = .ok (.goto 4, 3) := by decide +kernel
theorem dL_refusesPlaces_217 : decode cL_refusesPlaces 217 = .ok (.iconst (-1), 1) := by decide +kernel
theorem dL_refusesPlaces_218 : decode cL_refusesPlaces 218 = .ok (.invokestatic 83, 3) := by decide +kernel
theorem dL_refusesPlaces_221 : decode cL_refusesPlaces 221 = .ok (.sipush (-3002), 3) := by decide +kernel
theorem dL_refusesPlaces_224 : decode cL_refusesPlaces 224 = .ok (.if_icmp .ne 81, 3) := by decide +kernel
theorem dL_refusesPlaces_227 : decode cL_refusesPlaces 227 = .ok (.aload_n 0, 1) := by decide +kernel
theorem dL_refusesPlaces_228 : decode cL_refusesPlaces 228 = .ok (.iconst 0, 1) := by decide +kernel
theorem dL_refusesPlaces_229 : decode cL_refusesPlaces 229 = .ok (.iload_n 1, 1) := by decide +kernel
theorem dL_refusesPlaces_230 : decode cL_refusesPlaces 230 = .ok (.ifCond .ne 7, 3) := by decide +kernel
theorem dL_refusesPlaces_233 : decode cL_refusesPlaces 233 = .ok (.iconst 5, 1) := by decide +kernel
theorem dL_refusesPlaces_234 : decode cL_refusesPlaces 234 = .ok (.goto 4, 3) := by decide +kernel
theorem dL_refusesPlaces_237 : decode cL_refusesPlaces 237 = .ok (.iconst (-1), 1) := by decide +kernel
theorem dL_refusesPlaces_238 : decode cL_refusesPlaces 238 = .ok (.invokestatic 87, 3) := by decide +kernel
theorem dL_refusesPlaces_241 : decode cL_refusesPlaces 241 = .ok (.sipush (-3002), 3) := by decide +kernel
theorem dL_refusesPlaces_244 : decode cL_refusesPlaces 244 = .ok (.if_icmp .ne 61, 3) := by decide +kernel
theorem dL_refusesPlaces_247 : decode cL_refusesPlaces 247 = .ok (.aload_n 0, 1) := by decide +kernel
theorem dL_refusesPlaces_248 : decode cL_refusesPlaces 248 = .ok (.iconst 2, 1) := by decide +kernel
theorem dL_refusesPlaces_249 : decode cL_refusesPlaces 249 = .ok (.invokestatic 73, 3) := by decide +kernel
theorem dL_refusesPlaces_252 : decode cL_refusesPlaces 252 = .ok (.ifCond .le 24, 3) := by decide +kernel
theorem dL_refusesPlaces_255 : decode cL_refusesPlaces 255 = .ok (.aload_n 0, 1) := by decide +kernel
theorem dL_refusesPlaces_256 : decode cL_refusesPlaces 256 = .ok (.iconst 0, 1) := by decide +kernel
theorem dL_refusesPlaces_257 : decode cL_refusesPlaces 257 = .ok (.iload_n 1, 1) := by decide +kernel
theorem dL_refusesPlaces_258 : decode cL_refusesPlaces 258 = .ok (.ifCond .ne 8, 3) := by decide +kernel
theorem dL_refusesPlaces_261 : decode cL_refusesPlaces 261 = .ok (.bipush 10, 2) := by decide +kernel
theorem dL_refusesPlaces_263 : decode cL_refusesPlaces 263 = .ok (.goto 4, 3) := by decide +kernel
theorem dL_refusesPlaces_266 : decode cL_refusesPlaces 266 = .ok (.iconst (-1), 1) := by decide +kernel
theorem dL_refusesPlaces_267 : decode cL_refusesPlaces 267 = .ok (.invokestatic 90, 3) := by decide +kernel
theorem dL_refusesPlaces_270 : decode cL_refusesPlaces 270 = .ok (.sipush (-3002), 3) := by decide +kernel
theorem dL_refusesPlaces_273 : decode cL_refusesPlaces 273 = .ok (.if_icmp .ne 32, 3) := by decide +kernel
theorem dL_refusesPlaces_276 : decode cL_refusesPlaces 276 = .ok (.aload_n 0, 1) := by decide +kernel
theorem dL_refusesPlaces_277 : decode cL_refusesPlaces 277 = .ok (.iconst 0, 1) := by decide +kernel
theorem dL_refusesPlaces_278 : decode cL_refusesPlaces 278 = .ok (.iconst 0, 1) := by decide +kernel
theorem dL_refusesPlaces_279 : decode cL_refusesPlaces 279 = .ok (.invokestatic 96, 3) := by decide +kernel
theorem dL_refusesPlaces_282 : decode cL_refusesPlaces 282 = .ok (.ifCond .lt 25, 3) := by decide +kernel
theorem dL_refusesPlaces_285 : decode cL_refusesPlaces 285 = .ok (.aload_n 0, 1) := by decide +kernel
theorem dL_refusesPlaces_286 : decode cL_refusesPlaces 286 = .ok (.iconst 0, 1) := by decide +kernel
theorem dL_refusesPlaces_287 : decode cL_refusesPlaces 287 = .ok (.iload_n 1, 1) := by decide +kernel
theorem dL_refusesPlaces_288 : decode cL_refusesPlaces 288 = .ok (.ifCond .ne 7, 3) := by decide +kernel
theorem dL_refusesPlaces_291 : decode cL_refusesPlaces 291 = .ok (.iconst 2, 1) := by decide +kernel
theorem dL_refusesPlaces_292 : decode cL_refusesPlaces 292 = .ok (.goto 4, 3) := by decide +kernel
theorem dL_refusesPlaces_295 : decode cL_refusesPlaces 295 = .ok (.iconst (-1), 1) := by decide +kernel
theorem dL_refusesPlaces_296 : decode cL_refusesPlaces 296 = .ok (.invokestatic 96, 3) := by decide +kernel
theorem dL_refusesPlaces_299 : decode cL_refusesPlaces 299 = .ok (.sipush (-3002), 3) := by decide +kernel
theorem dL_refusesPlaces_302 : decode cL_refusesPlaces 302 = .ok (.if_icmp .eq 5, 3) := by decide +kernel
theorem dL_refusesPlaces_305 : decode cL_refusesPlaces 305 = .ok (.iconst 0, 1) := by decide +kernel
theorem dL_refusesPlaces_306 : decode cL_refusesPlaces 306 = .ok (.ireturn, 1) := by decide +kernel
theorem dL_refusesPlaces_307 : decode cL_refusesPlaces 307 = .ok (.iinc 1 1, 3) := by decide +kernel
theorem dL_refusesPlaces_310 : decode cL_refusesPlaces 310 = .ok (.goto (-308), 3) := by decide +kernel
theorem dL_refusesPlaces_313 : decode cL_refusesPlaces 313 = .ok (.iconst 1, 1) := by decide +kernel
theorem dL_refusesPlaces_314 : decode cL_refusesPlaces 314 = .ok (.ireturn, 1) := by decide +kernel
set_option maxRecDepth 20000 in
theorem ggL_refused_X4_digest : GoodIn wsL_refused wsX4_digest := goodIn_ca (goodIn_ca (goodIn_r _ [5, 6, 7, 8, 9, 10, 11, 12, 13, 4, 14, 15, 16, 17, 18, 19, 20, 21, 22, 23, 24, 25, 26, 27, 28, 29, 30, 31, 32, 33, 34, 35, 36, 37, 38, 39, 40, 41, 42, 43, 44, 45, 46, 47, 48, 49, 50, 51, 52, 53, 54, 55, 56, 57, 58, 59, 60, 61, 62, 63, 64, 65, 66, 67, 68, 69, 70, 71, 72, 73, 74, 75, 76, 77, 78, 79, 80, 81, 82, 83, 84, 85, 86, 87, 88, 89, 90, 91, 92, 93, 94, 95, 96, 97, 98, 99, 100, 101, 102, 103, 104, 105, 106, 107, 108, 109, 110, 111, 112, 113, 114, 115, 116, 117, 118, 119, 120, 121, 122, 123, 124, 125, 126, 127, 128, 129, 130, 131, 132, 133, 134, 135, 136, 137, 138, 139, 140, 141, 142, 143, 144, 145, 146, 147, 148, 149, 150, 151, 152, 153, 154, 155, 156, 157, 158, 159, 160, 161, 162, 163, 164, 165, 166, 167, 168, 169, 170, 171, 172, 173, 174, 175, 176, 177, 178, 179, 180, 181, 182, 183, 184, 185, 186, 187, 188, 189, 190, 191, 192, 193, 194, 195, 196, 197, 198, 199, 200, 201, 202, 203, 204, 205, 206, 207, 208, 209, 210, 211, 212, 213, 214, 215, 216, 217, 218, 219, 220, 221, 222, 223, 224, 225, 226, 227, 228, 229, 230, 231, 232, 233, 234, 235, 236, 237, 238, 239, 240, 241, 242, 243, 244, 245, 246, 247, 248, 249, 250, 251, 252, 253, 254, 255, 256, 257, 258, 259, 260, 261, 262, 263, 264, 265, 266, 267, 268, 269, 270, 271, 272, 273, 274, 275, 276, 277, 278, 279, 280, 281, 282, 283, 284, 285, 419, 420, 421, 422, 423, 424, 425, 426, 427, 428, 429, 430, 431, 432, 433, 434, 435, 436, 437, 438, 439, 440, 441, 442, 443, 444, 445, 446, 447, 448] (by decide +kernel) (by decide +kernel)) (goodIn_sub (fun _ h => List.mem_cons_of_mem _ (List.mem_append_left _ (List.mem_append_left _ (List.mem_append_right _ h)))) (by decide +kernel))) (goodIn_sub (fun _ h => List.mem_cons_of_mem _ (List.mem_append_left _ (List.mem_append_right _ h))) (by decide +kernel))
set_option maxRecDepth 20000 in
theorem gL_refused_X4_digest : GoodIn wsL_refused (wsV RL 108 RX4 yX4_digest wsX4_digest) := goodIn_app (goodIn_of _ (by decide +kernel)) ggL_refused_X4_digest
set_option maxRecDepth 20000 in
theorem ggL_refused_L_refusesPlaces : GoodIn wsL_refused wsL_refusesPlaces := goodIn_ca (goodIn_ca (goodIn_ca (goodIn_r _ [289, 290, 291, 288, 292, 293, 294, 17, 18, 4, 19, 20, 21, 9, 22, 23, 24, 25, 26, 10, 27, 28, 29, 30, 31, 32, 33, 34, 35, 36, 37, 38, 39, 40, 41, 42, 43, 44, 45, 46, 47, 48, 49, 50, 51, 52, 53, 54, 55, 56, 295, 296, 297, 298, 299, 300, 301, 302, 303, 304, 305, 89, 90, 91, 92, 72, 73, 306, 164, 165, 166, 115, 167, 98, 99, 100, 101, 102, 168, 75, 76, 77, 78, 169, 112, 113, 114, 116, 307, 308, 309, 310, 11, 311, 194, 195, 196, 197, 147, 198, 199, 200, 201, 202, 203, 157, 204, 205, 206, 207, 208, 209, 210, 211, 212, 213, 214, 215, 216, 217, 218, 219, 220, 221, 222, 223, 312, 313, 314, 315, 316, 317, 318, 319, 320, 321, 273, 274, 275, 322, 323, 324, 325, 326, 327, 328, 125, 130, 126, 87, 134, 135, 136, 137, 138, 139, 140, 141, 329, 330, 331, 332, 333, 334, 335, 336, 337, 338, 339, 340, 341, 342, 343, 344, 345, 65, 68, 69, 70, 71, 346, 347, 348, 349, 122, 123, 124, 127, 128, 129, 131, 132, 133, 142, 143, 144, 145, 146, 350, 351, 352, 353, 62, 63, 64, 66, 67, 74, 354, 355, 356, 357, 84, 85, 86, 88, 93, 94, 95, 96, 97, 103, 104, 105, 106, 107, 108, 109, 110, 111, 358, 359, 360, 361, 149, 150, 151, 152, 153, 154, 155, 156, 158, 159, 160, 161, 162, 163, 170, 362, 363, 364, 365, 366, 367, 368, 193, 224, 225, 226, 227, 228, 229, 230, 231, 232, 233, 234, 235, 236, 237, 238, 239, 240, 241, 242, 243, 244, 245, 246, 247, 248, 249, 250, 251, 252, 253, 254, 255, 256, 257, 180, 181, 258, 259, 260, 261, 262, 263, 264, 265, 266, 267, 268, 269, 270, 271, 272, 276, 277, 278, 279, 280, 281, 282, 283, 284, 285, 369, 370, 371, 372, 373, 374, 375, 376, 377, 378, 379, 380, 381, 382, 383, 384, 385, 386, 387, 388, 389, 183, 184, 185, 186, 187, 175, 176, 177, 178, 179, 188, 419, 420, 421, 422, 423, 426, 427, 428, 429, 430, 431, 432, 433, 434, 435, 436, 437, 438, 439, 440, 441, 442, 443, 444, 445, 446, 447, 448] (by decide +kernel) (by decide +kernel)) (goodIn_sub (fun _ h => List.mem_cons_of_mem _ (List.mem_append_left _ (List.mem_append_left _ (List.mem_append_right _ h)))) (by decide +kernel))) (goodIn_sub (fun _ h => List.mem_cons_of_mem _ (List.mem_append_right _ h)) (by decide +kernel))) (goodIn_sub (fun _ h => List.mem_cons_of_mem _ (List.mem_append_left _ (List.mem_append_right _ h))) (by decide +kernel))
set_option maxRecDepth 20000 in
theorem gL_refused_L_refusesPlaces : GoodIn wsL_refused (va_wsS RL 130 yL_refusesPlaces wsL_refusesPlaces) := goodIn_app (goodIn_of _ (by decide +kernel)) ggL_refused_L_refusesPlaces
set_option maxRecDepth 20000 in
theorem ggL_refused_L_setting : GoodIn wsL_refused wsL_setting := goodIn_ca (goodIn_ca (goodIn_r _ [332, 298, 293, 333, 334, 335, 4, 336, 72, 73, 20, 21, 337, 338, 9, 10, 307, 308, 309, 310, 11, 311, 194, 195, 196, 31, 197, 115, 44, 147, 198, 199, 200, 201, 202, 34, 203, 43, 157, 33, 204, 205, 206, 49, 207, 52, 208, 209, 210, 101, 51, 102, 211, 212, 213, 214, 215, 216, 217, 218, 219, 220, 221, 222, 223, 419, 420, 421, 422, 423, 426, 427, 428, 429, 430, 431, 432, 433, 434, 435, 436, 437, 438, 439, 440, 441, 442, 443, 444, 445, 446, 447, 448] (by decide +kernel) (by decide +kernel)) (goodIn_sub (fun _ h => List.mem_cons_of_mem _ (List.mem_append_left _ (List.mem_append_right _ h))) (by decide +kernel))) (goodIn_sub (fun _ h => List.mem_cons_of_mem _ (List.mem_append_left _ (List.mem_append_left _ (List.mem_append_right _ h)))) (by decide +kernel))
set_option maxRecDepth 20000 in
theorem gL_refused_L_setting : GoodIn wsL_refused (va_wsS RL 118 yL_setting wsL_setting) := goodIn_app (goodIn_of _ (by decide +kernel)) ggL_refused_L_setting
set_option maxRecDepth 20000 in
theorem ggL_refused_L_heighten : GoodIn wsL_refused wsL_heighten := goodIn_ca (goodIn_ca (goodIn_r _ [341, 298, 293, 342, 343, 344, 4, 345, 20, 21, 9, 22, 65, 68, 69, 70, 71, 72, 73, 23, 307, 308, 309, 310, 11, 311, 194, 195, 196, 31, 197, 115, 44, 147, 198, 199, 200, 201, 202, 34, 203, 43, 157, 33, 204, 205, 206, 49, 207, 52, 208, 209, 210, 101, 51, 102, 211, 212, 213, 214, 215, 216, 217, 218, 219, 220, 221, 222, 223, 419, 420, 421, 422, 423, 426, 427, 428, 429, 430, 431, 432, 433, 434, 435, 436, 437, 438, 439, 440, 441, 442, 443, 444, 445, 446, 447, 448] (by decide +kernel) (by decide +kernel)) (goodIn_sub (fun _ h => List.mem_cons_of_mem _ (List.mem_append_left _ (List.mem_append_left _ (List.mem_append_right _ h)))) (by decide +kernel))) (goodIn_sub (fun _ h => List.mem_cons_of_mem _ (List.mem_append_left _ (List.mem_append_right _ h))) (by decide +kernel))
set_option maxRecDepth 20000 in
theorem gL_refused_L_heighten : GoodIn wsL_refused (va_wsS RL 121 yL_heighten wsL_heighten) := goodIn_app (goodIn_of _ (by decide +kernel)) ggL_refused_L_heighten
set_option maxRecDepth 20000 in
theorem ggL_refused_L_passing : GoodIn wsL_refused wsL_passing := goodIn_ca (goodIn_ca (goodIn_r _ [392, 293, 299, 393, 394, 395, 4, 396, 20, 21, 304, 305, 9, 26, 397, 27, 307, 308, 309, 310, 11, 311, 194, 195, 196, 31, 197, 115, 44, 147, 198, 199, 200, 201, 202, 34, 203, 43, 157, 33, 204, 205, 206, 49, 207, 52, 208, 209, 210, 101, 51, 102, 211, 212, 213, 214, 215, 216, 217, 218, 219, 220, 221, 222, 223, 224, 225, 226, 227, 45, 228, 229, 230, 231, 156, 232, 153, 154, 155, 158, 139, 140, 141, 116, 78, 159, 160, 161, 162, 163, 164, 165, 166, 167, 98, 99, 100, 168, 75, 76, 77, 169, 112, 113, 114, 170, 29, 30, 32, 35, 36, 37, 38, 233, 234, 235, 236, 237, 238, 239, 240, 241, 242, 243, 244, 245, 246, 247, 248, 249, 250, 251, 252, 143, 144, 145, 146, 253, 254, 255, 256, 257, 180, 55, 181, 103, 104, 105, 106, 258, 259, 260, 261, 262, 263, 264, 265, 266, 267, 268, 269, 270, 271, 272, 273, 274, 275, 276, 277, 278, 279, 280, 281, 282, 283, 284, 285, 419, 420, 421, 422, 423, 426, 427, 428, 429, 430, 431, 432, 433, 434, 435, 436, 437, 438, 439, 440, 441, 442, 443, 444, 445, 446, 447, 448] (by decide +kernel) (by decide +kernel)) (goodIn_sub (fun _ h => List.mem_cons_of_mem _ (List.mem_append_left _ (List.mem_append_left _ (List.mem_append_right _ h)))) (by decide +kernel))) (goodIn_sub (fun _ h => List.mem_cons_of_mem _ (List.mem_append_right _ h)) (by decide +kernel))
set_option maxRecDepth 20000 in
theorem gL_refused_L_passing : GoodIn wsL_refused (va_wsS RL 134 yL_passing wsL_passing) := goodIn_app (goodIn_of _ (by decide +kernel)) ggL_refused_L_passing
set_option maxRecDepth 20000 in
theorem ggL_refused_L_all : GoodIn wsL_refused wsL_all := goodIn_ca (goodIn_r _ [292, 293, 294, 17, 18, 4, 19, 20, 21, 9, 22, 23, 24, 25, 26, 10, 27, 28, 29, 30, 31, 32, 33, 34, 35, 36, 37, 38, 39, 40, 41, 42, 43, 44, 45, 46, 47, 48, 49, 50, 51, 52, 53, 54, 55, 56, 419, 420, 421, 422, 423, 426, 427, 428, 429, 430, 431, 432, 433, 434, 435, 436, 437, 438, 439, 440, 441, 442, 443, 444, 445, 446, 447, 448] (by decide +kernel) (by decide +kernel)) (goodIn_sub (fun _ h => List.mem_cons_of_mem _ (List.mem_append_left _ (List.mem_append_left _ (List.mem_append_right _ h)))) (by decide +kernel))
set_option maxRecDepth 20000 in
theorem gL_refused_L_all : GoodIn wsL_refused (va_wsS RL 73 yL_all wsL_all) := goodIn_app (goodIn_of _ (by decide +kernel)) ggL_refused_L_all
set_option maxRecDepth 20000 in
theorem ggL_refused_L_sentWith : GoodIn wsL_refused wsL_sentWith := goodIn_ca (goodIn_r _ [400, 293, 401, 402, 403, 4, 404, 20, 21, 337, 338, 193, 9, 10, 27, 194, 195, 196, 31, 197, 115, 44, 147, 198, 199, 200, 201, 202, 34, 203, 43, 157, 33, 204, 205, 206, 49, 207, 52, 208, 209, 210, 101, 51, 102, 211, 212, 213, 214, 215, 216, 217, 218, 219, 220, 221, 222, 223, 224, 225, 226, 227, 45, 228, 229, 230, 231, 156, 232, 153, 154, 155, 158, 139, 140, 141, 116, 78, 159, 160, 161, 162, 163, 164, 165, 166, 167, 98, 99, 100, 168, 75, 76, 77, 169, 112, 113, 114, 170, 29, 30, 32, 35, 36, 37, 38, 233, 234, 235, 236, 237, 238, 239, 240, 241, 242, 243, 244, 245, 246, 247, 248, 249, 250, 251, 252, 143, 144, 145, 146, 253, 254, 255, 256, 257, 180, 55, 181, 103, 104, 105, 106, 258, 259, 260, 261, 262, 263, 264, 265, 266, 267, 268, 269, 270, 271, 272, 273, 274, 275, 276, 277, 278, 279, 280, 281, 282, 283, 284, 285, 419, 420, 421, 422, 423, 426, 427, 428, 429, 430, 431, 432, 433, 434, 435, 436, 437, 438, 439, 440, 441, 442, 443, 444, 445, 446, 447, 448] (by decide +kernel) (by decide +kernel)) (goodIn_sub (fun _ h => List.mem_cons_of_mem _ (List.mem_append_left _ (List.mem_append_left _ (List.mem_append_right _ h)))) (by decide +kernel))
set_option maxRecDepth 20000 in
theorem gL_refused_L_sentWith : GoodIn wsL_refused (va_wsS RL 137 yL_sentWith wsL_sentWith) := goodIn_app (goodIn_of _ (by decide +kernel)) ggL_refused_L_sentWith
set_option maxRecDepth 20000 in
theorem ggL_refused_L_typing : GoodIn wsL_refused wsL_typing := goodIn_ca (goodIn_ca (goodIn_r _ [407, 293, 299, 408, 409, 410, 4, 411, 20, 21, 304, 305, 7, 8, 412, 413, 414, 415, 416, 417, 418, 419, 420, 421, 422, 423, 424, 425] (by decide +kernel) (by decide +kernel)) (goodIn_sub (fun _ h => List.mem_cons_of_mem _ (List.mem_append_left _ (List.mem_append_left _ (List.mem_append_right _ h)))) (by decide +kernel))) (goodIn_sub (fun _ h => List.mem_cons_of_mem _ (List.mem_append_right _ h)) (by decide +kernel))
set_option maxRecDepth 20000 in
theorem gL_refused_L_typing : GoodIn wsL_refused (va_wsS RL 140 yL_typing wsL_typing) := goodIn_app (goodIn_of _ (by decide +kernel)) ggL_refused_L_typing
theorem dL_refused_0 : decode cL_refused 0 = .ok (.aload_n 0, 1) := by decide +kernel
theorem dL_refused_1 : decode cL_refused 1 = .ok (.invokevirtual 108, 3) := by decide +kernel
theorem dL_refused_4 : decode cL_refused 4 = .ok (.lstore_n 1, 1) := by decide +kernel
theorem dL_refused_5 : decode cL_refused 5 = .ok (.aload_n 0, 1) := by decide +kernel
theorem dL_refused_6 : decode cL_refused 6 = .ok (.invokestatic 130, 3) := by decide +kernel
theorem dL_refused_9 : decode cL_refused 9 = .ok (.ifCond .ne 5, 3) := by decide +kernel
theorem dL_refused_12 : decode cL_refused 12 = .ok (.iconst 0, 1) := by decide +kernel
theorem dL_refused_13 : decode cL_refused 13 = .ok (.ireturn, 1) := by decide +kernel
theorem dL_refused_14 : decode cL_refused 14 = .ok (.iconst 0, 1) := by decide +kernel
theorem dL_refused_15 : decode cL_refused 15 = .ok (.istore_n 3, 1) := by decide +kernel
theorem dL_refused_16 : decode cL_refused 16 = .ok (.iload_n 3, 1) := by decide +kernel
theorem dL_refused_17 : decode cL_refused 17 = .ok (.iconst 2, 1) := by decide +kernel
theorem dL_refused_18 : decode cL_refused 18 = .ok (.if_icmp .ge 200, 3) := by decide +kernel
theorem dL_refused_21 : decode cL_refused 21 = .ok (.aload_n 0, 1) := by decide +kernel
theorem dL_refused_22 : decode cL_refused 22 = .ok (.iconst 0, 1) := by decide +kernel
theorem dL_refused_23 : decode cL_refused 23 = .ok (.iload_n 3, 1) := by decide +kernel
theorem dL_refused_24 : decode cL_refused 24 = .ok (.ifCond .ne 8, 3) := by decide +kernel
theorem dL_refused_27 : decode cL_refused 27 = .ok (.bipush 21, 2) := by decide +kernel
theorem dL_refused_29 : decode cL_refused 29 = .ok (.goto 4, 3) := by decide +kernel
theorem dL_refused_32 : decode cL_refused 32 = .ok (.iconst (-1), 1) := by decide +kernel
theorem dL_refused_33 : decode cL_refused 33 = .ok (.invokestatic 118, 3) := by decide +kernel
theorem dL_refused_36 : decode cL_refused 36 = .ok (.sipush (-3002), 3) := by decide +kernel
theorem dL_refused_39 : decode cL_refused 39 = .ok (.if_icmp .ne 171, 3) := by decide +kernel
theorem dL_refused_42 : decode cL_refused 42 = .ok (.aload_n 0, 1) := by decide +kernel
theorem dL_refused_43 : decode cL_refused 43 = .ok (.iconst 1, 1) := by decide +kernel
theorem dL_refused_44 : decode cL_refused 44 = .ok (.iload_n 3, 1) := by decide +kernel
theorem dL_refused_45 : decode cL_refused 45 = .ok (.ifCond .ne 8, 3) := by decide +kernel
theorem dL_refused_48 : decode cL_refused 48 = .ok (.bipush 51, 2) := by decide +kernel
theorem dL_refused_50 : decode cL_refused 50 = .ok (.goto 4, 3) := by decide +kernel
theorem dL_refused_53 : decode cL_refused 53 = .ok (.iconst 0, 1) := by decide +kernel
theorem dL_refused_54 : decode cL_refused 54 = .ok (.invokestatic 118, 3) := by decide +kernel
theorem dL_refused_57 : decode cL_refused 57 = .ok (.sipush (-3002), 3) := by decide +kernel
theorem dL_refused_60 : decode cL_refused 60 = .ok (.if_icmp .ne 150, 3) := by decide +kernel
theorem dL_refused_63 : decode cL_refused 63 = .ok (.aload_n 0, 1) := by decide +kernel
theorem dL_refused_64 : decode cL_refused 64 = .ok (.iconst 2, 1) := by decide +kernel
theorem dL_refused_65 : decode cL_refused 65 = .ok (.iload_n 3, 1) := by decide +kernel
theorem dL_refused_66 : decode cL_refused 66 = .ok (.ifCond .ne 9, 3) := by decide +kernel
theorem dL_refused_69 : decode cL_refused 69 = .ok (.sipush 501, 3) := by decide +kernel
theorem dL_refused_72 : decode cL_refused 72 = .ok (.goto 4, 3) := by decide +kernel
theorem dL_refused_75 : decode cL_refused 75 = .ok (.iconst (-1), 1) := by decide +kernel
theorem dL_refused_76 : decode cL_refused 76 = .ok (.invokestatic 118, 3) := by decide +kernel
theorem dL_refused_79 : decode cL_refused 79 = .ok (.sipush (-3002), 3) := by decide +kernel
theorem dL_refused_82 : decode cL_refused 82 = .ok (.if_icmp .ne 128, 3) := by decide +kernel
theorem dL_refused_85 : decode cL_refused 85 = .ok (.aload_n 0, 1) := by decide +kernel
theorem dL_refused_86 : decode cL_refused 86 = .ok (.iconst 3, 1) := by decide +kernel
theorem dL_refused_87 : decode cL_refused 87 = .ok (.iload_n 3, 1) := by decide +kernel
theorem dL_refused_88 : decode cL_refused 88 = .ok (.ifCond .ne 8, 3) := by decide +kernel
theorem dL_refused_91 : decode cL_refused 91 = .ok (.bipush 41, 2) := by decide +kernel
theorem dL_refused_93 : decode cL_refused 93 = .ok (.goto 4, 3) := by decide +kernel
theorem dL_refused_96 : decode cL_refused 96 = .ok (.iconst (-1), 1) := by decide +kernel
theorem dL_refused_97 : decode cL_refused 97 = .ok (.invokestatic 118, 3) := by decide +kernel
theorem dL_refused_100 : decode cL_refused 100 = .ok (.sipush (-3002), 3) := by decide +kernel
theorem dL_refused_103 : decode cL_refused 103 = .ok (.if_icmp .ne 107, 3) := by decide +kernel
theorem dL_refused_106 : decode cL_refused 106 = .ok (.aload_n 0, 1) := by decide +kernel
theorem dL_refused_107 : decode cL_refused 107 = .ok (.iconst 0, 1) := by decide +kernel
theorem dL_refused_108 : decode cL_refused 108 = .ok (.iload_n 3, 1) := by decide +kernel
theorem dL_refused_109 : decode cL_refused 109 = .ok (.ifCond .ne 8, 3) := by decide +kernel
theorem dL_refused_112 : decode cL_refused 112 = .ok (.bipush 10, 2) := by decide +kernel
theorem dL_refused_114 : decode cL_refused 114 = .ok (.goto 4, 3) := by decide +kernel
theorem dL_refused_117 : decode cL_refused 117 = .ok (.iconst (-1), 1) := by decide +kernel
theorem dL_refused_118 : decode cL_refused 118 = .ok (.invokestatic 121, 3) := by decide +kernel
theorem dL_refused_121 : decode cL_refused 121 = .ok (.sipush (-3002), 3) := by decide +kernel
theorem dL_refused_124 : decode cL_refused 124 = .ok (.if_icmp .ne 86, 3) := by decide +kernel
theorem dL_refused_127 : decode cL_refused 127 = .ok (.aload_n 0, 1) := by decide +kernel
theorem dL_refused_128 : decode cL_refused 128 = .ok (.iload_n 3, 1) := by decide +kernel
theorem dL_refused_129 : decode cL_refused 129 = .ok (.ifCond .ne 9, 3) := by decide +kernel
theorem dL_refused_132 : decode cL_refused 132 = .ok (.sipush 501, 3) := by decide +kernel
theorem dL_refused_135 : decode cL_refused 135 = .ok (.goto 4, 3) := by decide +kernel
theorem dL_refused_138 : decode cL_refused 138 = .ok (.iconst 0, 1) := by decide +kernel
theorem dL_refused_139 : decode cL_refused 139 = .ok (.invokestatic 134, 3) := by decide +kernel
theorem dL_refused_142 : decode cL_refused 142 = .ok (.sipush (-3002), 3) := by decide +kernel
theorem dL_refused_145 : decode cL_refused 145 = .ok (.if_icmp .ne 65, 3) := by decide +kernel
theorem dL_refused_148 : decode cL_refused 148 = .ok (.aload_n 0, 1) := by decide +kernel
theorem dL_refused_149 : decode cL_refused 149 = .ok (.iload_n 3, 1) := by decide +kernel
theorem dL_refused_150 : decode cL_refused 150 = .ok (.ifCond .ne 8, 3) := by decide +kernel
theorem dL_refused_153 : decode cL_refused 153 = .ok (.bipush 12, 2) := by decide +kernel
theorem dL_refused_155 : decode cL_refused 155 = .ok (.goto 4, 3) := by decide +kernel
theorem dL_refused_158 : decode cL_refused 158 = .ok (.iconst (-1), 1) := by decide +kernel
theorem dL_refused_159 : decode cL_refused 159 = .ok (.invokestatic 73, 3) := by decide +kernel
theorem dL_refused_162 : decode cL_refused 162 = .ok (.sipush (-3002), 3) := by decide +kernel
theorem dL_refused_165 : decode cL_refused 165 = .ok (.if_icmp .ne 45, 3) := by decide +kernel
theorem dL_refused_168 : decode cL_refused 168 = .ok (.aload_n 0, 1) := by decide +kernel
theorem dL_refused_169 : decode cL_refused 169 = .ok (.iload_n 3, 1) := by decide +kernel
theorem dL_refused_170 : decode cL_refused 170 = .ok (.ifCond .ne 9, 3) := by decide +kernel
theorem dL_refused_173 : decode cL_refused 173 = .ok (.sipush 501, 3) := by decide +kernel
theorem dL_refused_176 : decode cL_refused 176 = .ok (.goto 4, 3) := by decide +kernel
theorem dL_refused_179 : decode cL_refused 179 = .ok (.iconst (-1), 1) := by decide +kernel
theorem dL_refused_180 : decode cL_refused 180 = .ok (.invokestatic 137, 3) := by decide +kernel
theorem dL_refused_183 : decode cL_refused 183 = .ok (.sipush (-3002), 3) := by decide +kernel
theorem dL_refused_186 : decode cL_refused 186 = .ok (.if_icmp .ne 24, 3) := by decide +kernel
theorem dL_refused_189 : decode cL_refused 189 = .ok (.aload_n 0, 1) := by decide +kernel
theorem dL_refused_190 : decode cL_refused 190 = .ok (.iload_n 3, 1) := by decide +kernel
theorem dL_refused_191 : decode cL_refused 191 = .ok (.ifCond .ne 9, 3) := by decide +kernel
theorem dL_refused_194 : decode cL_refused 194 = .ok (.sipush 128, 3) := by decide +kernel
theorem dL_refused_197 : decode cL_refused 197 = .ok (.goto 4, 3) := by decide +kernel
theorem dL_refused_200 : decode cL_refused 200 = .ok (.iconst (-1), 1) := by decide +kernel
theorem dL_refused_201 : decode cL_refused 201 = .ok (.invokestatic 140, 3) := by decide +kernel
theorem dL_refused_204 : decode cL_refused 204 = .ok (.sipush (-3002), 3) := by decide +kernel
theorem dL_refused_207 : decode cL_refused 207 = .ok (.if_icmp .eq 5, 3) := by decide +kernel
theorem dL_refused_210 : decode cL_refused 210 = .ok (.iconst 0, 1) := by decide +kernel
theorem dL_refused_211 : decode cL_refused 211 = .ok (.ireturn, 1) := by decide +kernel
theorem dL_refused_212 : decode cL_refused 212 = .ok (.iinc 3 1, 3) := by decide +kernel
theorem dL_refused_215 : decode cL_refused 215 = .ok (.goto (-199), 3) := by decide +kernel
theorem dL_refused_218 : decode cL_refused 218 = .ok (.aload_n 0, 1) := by decide +kernel
theorem dL_refused_219 : decode cL_refused 219 = .ok (.invokevirtual 108, 3) := by decide +kernel
theorem dL_refused_222 : decode cL_refused 222 = .ok (.lload_n 1, 1) := by decide +kernel
theorem dL_refused_223 : decode cL_refused 223 = .ok (.lcmp, 1) := by decide +kernel
theorem dL_refused_224 : decode cL_refused 224 = .ok (.ifCond .ne 7, 3) := by decide +kernel
theorem dL_refused_227 : decode cL_refused 227 = .ok (.iconst 1, 1) := by decide +kernel
theorem dL_refused_228 : decode cL_refused 228 = .ok (.goto 4, 3) := by decide +kernel
theorem dL_refused_231 : decode cL_refused 231 = .ok (.iconst 0, 1) := by decide +kernel
theorem dL_refused_232 : decode cL_refused 232 = .ok (.ireturn, 1) := by decide +kernel
set_option maxRecDepth 20000 in
theorem ggL_types_L_typing : GoodIn wsL_types wsL_typing := goodIn_ca (goodIn_ca (goodIn_r _ [5, 6, 7, 8, 9, 10, 11, 12, 13, 14, 15, 16, 17, 18, 19, 20, 21, 22, 23, 24, 25, 26, 27, 28, 29, 30, 31, 32] (by decide +kernel) (by decide +kernel)) (goodIn_sub (fun _ h => List.mem_cons_of_mem _ (List.mem_append_left _ (List.mem_append_right _ h))) (by decide +kernel))) (goodIn_sub (fun _ h => List.mem_cons_of_mem _ (List.mem_append_right _ h)) (by decide +kernel))
set_option maxRecDepth 20000 in
theorem gL_types_L_typing : GoodIn wsL_types (va_wsS RL 140 yL_typing wsL_typing) := goodIn_app (goodIn_of _ (by decide +kernel)) ggL_types_L_typing
theorem dL_types_0 : decode cL_types 0 = .ok (.bipush 7, 2) := by decide +kernel
theorem dL_types_2 : decode cL_types 2 = .ok (.istore_n 3, 1) := by decide +kernel
theorem dL_types_3 : decode cL_types 3 = .ok (.iload_n 3, 1) := by decide +kernel
theorem dL_types_4 : decode cL_types 4 = .ok (.ifCond .lt 37, 3) := by decide +kernel
theorem dL_types_7 : decode cL_types 7 = .ok (.lload_n 1, 1) := by decide +kernel
theorem dL_types_8 : decode cL_types 8 = .ok (.bipush 8, 2) := by decide +kernel
theorem dL_types_10 : decode cL_types 10 = .ok (.iload_n 3, 1) := by decide +kernel
theorem dL_types_11 : decode cL_types 11 = .ok (.imul, 1) := by decide +kernel
theorem dL_types_12 : decode cL_types 12 = .ok (.lshr, 1) := by decide +kernel
theorem dL_types_13 : decode cL_types 13 = .ok (.ldc2_w 143, 3) := by decide +kernel
theorem dL_types_16 : decode cL_types 16 = .ok (.land, 1) := by decide +kernel
theorem dL_types_17 : decode cL_types 17 = .ok (.l2i, 1) := by decide +kernel
theorem dL_types_18 : decode cL_types 18 = .ok (.istore 4, 2) := by decide +kernel
theorem dL_types_20 : decode cL_types 20 = .ok (.iload 4, 2) := by decide +kernel
theorem dL_types_22 : decode cL_types 22 = .ok (.ifCond .eq 13, 3) := by decide +kernel
theorem dL_types_25 : decode cL_types 25 = .ok (.aload_n 0, 1) := by decide +kernel
theorem dL_types_26 : decode cL_types 26 = .ok (.iload 4, 2) := by decide +kernel
theorem dL_types_28 : decode cL_types 28 = .ok (.invokestatic 140, 3) := by decide +kernel
theorem dL_types_31 : decode cL_types 31 = .ok (.ifCond .ge 4, 3) := by decide +kernel
theorem dL_types_34 : decode cL_types 34 = .ok (.return_, 1) := by decide +kernel
theorem dL_types_35 : decode cL_types 35 = .ok (.iinc 3 (-1), 3) := by decide +kernel
theorem dL_types_38 : decode cL_types 38 = .ok (.goto (-35), 3) := by decide +kernel
theorem dL_types_41 : decode cL_types 41 = .ok (.return_, 1) := by decide +kernel
