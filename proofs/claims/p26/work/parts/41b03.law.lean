set_option maxRecDepth 20000 in
theorem ggL_from_X4_ticksToValley : GoodIn wsL_from wsX4_ticksToValley := goodIn_r _ [189, 13, 19, 190, 191, 192, 9, 193, 194, 195, 196, 197, 24, 198, 111, 37, 142, 199, 200, 201, 202, 203, 27, 204, 36, 155, 26, 205, 206, 207, 42, 208, 45, 209, 210, 211, 97, 44, 98, 212, 213, 214, 215, 216, 217, 218, 219, 220, 221, 222, 223, 224, 32, 33, 34, 35, 38, 225, 226, 227, 228, 229, 230, 231, 232, 154, 233, 151, 152, 153, 156, 134, 135, 136, 112, 75, 157, 158, 159, 160, 161, 162, 163, 164, 165, 94, 95, 96, 166, 72, 73, 74, 167, 108, 109, 110, 168, 22, 23, 25, 28, 29, 30, 31, 234, 235, 236, 237, 238, 239, 240, 241, 242, 243, 244, 245, 246, 247, 248, 249, 250, 251, 252, 253, 138, 139, 140, 141, 254, 255, 256, 257, 258, 183, 48, 184, 99, 100, 101, 102, 259, 260, 261, 262, 263, 264, 265, 266, 267, 268, 269, 270, 271, 272, 273, 274, 275, 276, 277, 278, 279, 280, 281, 282, 283, 284, 285, 286, 287, 288, 289, 290, 291, 292, 293, 294, 295, 296, 297, 298, 299, 300, 301, 302, 303, 304, 305, 306, 307, 308, 309, 310, 311, 312, 313, 314] (by decide +kernel) (by decide +kernel)
set_option maxRecDepth 20000 in
theorem gL_from_X4_ticksToValley : GoodIn wsL_from (wsV RL 99 RX4 yX4_ticksToValley wsX4_ticksToValley) := goodIn_app (goodIn_of _ (by decide +kernel)) ggL_from_X4_ticksToValley
theorem dL_from_0 : decode cL_from 0 = .ok (.lload_n 1, 1) := by decide +kernel
theorem dL_from_1 : decode cL_from 1 = .ok (.lstore_n 3, 1) := by decide +kernel
theorem dL_from_2 : decode cL_from 2 = .ok (.iconst 0, 1) := by decide +kernel
theorem dL_from_3 : decode cL_from 3 = .ok (.istore 5, 2) := by decide +kernel
theorem dL_from_5 : decode cL_from 5 = .ok (.iload 5, 2) := by decide +kernel
theorem dL_from_7 : decode cL_from 7 = .ok (.bipush 12, 2) := by decide +kernel
theorem dL_from_9 : decode cL_from 9 = .ok (.if_icmp .ge 21, 3) := by decide +kernel
theorem dL_from_12 : decode cL_from 12 = .ok (.lload_n 3, 1) := by decide +kernel
theorem dL_from_13 : decode cL_from 13 = .ok (.aload_n 0, 1) := by decide +kernel
theorem dL_from_14 : decode cL_from 14 = .ok (.iload 5, 2) := by decide +kernel
theorem dL_from_16 : decode cL_from 16 = .ok (.invokestatic 73, 3) := by decide +kernel
theorem dL_from_19 : decode cL_from 19 = .ok (.i2l, 1) := by decide +kernel
theorem dL_from_20 : decode cL_from 20 = .ok (.invokestatic 79, 3) := by decide +kernel
theorem dL_from_23 : decode cL_from 23 = .ok (.lstore_n 3, 1) := by decide +kernel
theorem dL_from_24 : decode cL_from 24 = .ok (.iinc 5 1, 3) := by decide +kernel
theorem dL_from_27 : decode cL_from 27 = .ok (.goto (-22), 3) := by decide +kernel
theorem dL_from_30 : decode cL_from 30 = .ok (.iconst 0, 1) := by decide +kernel
theorem dL_from_31 : decode cL_from 31 = .ok (.istore 5, 2) := by decide +kernel
theorem dL_from_33 : decode cL_from 33 = .ok (.iload 5, 2) := by decide +kernel
theorem dL_from_35 : decode cL_from 35 = .ok (.iconst 4, 1) := by decide +kernel
theorem dL_from_36 : decode cL_from 36 = .ok (.aload_n 0, 1) := by decide +kernel
theorem dL_from_37 : decode cL_from 37 = .ok (.iconst 0, 1) := by decide +kernel
theorem dL_from_38 : decode cL_from 38 = .ok (.invokestatic 73, 3) := by decide +kernel
theorem dL_from_41 : decode cL_from 41 = .ok (.imul, 1) := by decide +kernel
theorem dL_from_42 : decode cL_from 42 = .ok (.if_icmp .ge 27, 3) := by decide +kernel
theorem dL_from_45 : decode cL_from 45 = .ok (.lload_n 3, 1) := by decide +kernel
theorem dL_from_46 : decode cL_from 46 = .ok (.aload_n 0, 1) := by decide +kernel
theorem dL_from_47 : decode cL_from 47 = .ok (.iload 5, 2) := by decide +kernel
theorem dL_from_49 : decode cL_from 49 = .ok (.iconst 4, 1) := by decide +kernel
theorem dL_from_50 : decode cL_from 50 = .ok (.idiv, 1) := by decide +kernel
theorem dL_from_51 : decode cL_from 51 = .ok (.iload 5, 2) := by decide +kernel
theorem dL_from_53 : decode cL_from 53 = .ok (.iconst 4, 1) := by decide +kernel
theorem dL_from_54 : decode cL_from 54 = .ok (.irem, 1) := by decide +kernel
theorem dL_from_55 : decode cL_from 55 = .ok (.invokestatic 83, 3) := by decide +kernel
theorem dL_from_58 : decode cL_from 58 = .ok (.i2l, 1) := by decide +kernel
theorem dL_from_59 : decode cL_from 59 = .ok (.invokestatic 79, 3) := by decide +kernel
theorem dL_from_62 : decode cL_from 62 = .ok (.lstore_n 3, 1) := by decide +kernel
theorem dL_from_63 : decode cL_from 63 = .ok (.iinc 5 1, 3) := by decide +kernel
theorem dL_from_66 : decode cL_from 66 = .ok (.goto (-33), 3) := by decide +kernel
theorem dL_from_69 : decode cL_from 69 = .ok (.iconst 0, 1) := by decide +kernel
theorem dL_from_70 : decode cL_from 70 = .ok (.istore 5, 2) := by decide +kernel
theorem dL_from_72 : decode cL_from 72 = .ok (.iload 5, 2) := by decide +kernel
theorem dL_from_74 : decode cL_from 74 = .ok (.iconst 5, 1) := by decide +kernel
theorem dL_from_75 : decode cL_from 75 = .ok (.aload_n 0, 1) := by decide +kernel
theorem dL_from_76 : decode cL_from 76 = .ok (.iconst 1, 1) := by decide +kernel
theorem dL_from_77 : decode cL_from 77 = .ok (.invokestatic 73, 3) := by decide +kernel
theorem dL_from_80 : decode cL_from 80 = .ok (.imul, 1) := by decide +kernel
theorem dL_from_81 : decode cL_from 81 = .ok (.if_icmp .ge 27, 3) := by decide +kernel
theorem dL_from_84 : decode cL_from 84 = .ok (.lload_n 3, 1) := by decide +kernel
theorem dL_from_85 : decode cL_from 85 = .ok (.aload_n 0, 1) := by decide +kernel
theorem dL_from_86 : decode cL_from 86 = .ok (.iload 5, 2) := by decide +kernel
theorem dL_from_88 : decode cL_from 88 = .ok (.iconst 5, 1) := by decide +kernel
theorem dL_from_89 : decode cL_from 89 = .ok (.idiv, 1) := by decide +kernel
theorem dL_from_90 : decode cL_from 90 = .ok (.iload 5, 2) := by decide +kernel
theorem dL_from_92 : decode cL_from 92 = .ok (.iconst 5, 1) := by decide +kernel
theorem dL_from_93 : decode cL_from 93 = .ok (.irem, 1) := by decide +kernel
theorem dL_from_94 : decode cL_from 94 = .ok (.invokestatic 87, 3) := by decide +kernel
theorem dL_from_97 : decode cL_from 97 = .ok (.i2l, 1) := by decide +kernel
theorem dL_from_98 : decode cL_from 98 = .ok (.invokestatic 79, 3) := by decide +kernel
theorem dL_from_101 : decode cL_from 101 = .ok (.lstore_n 3, 1) := by decide +kernel
theorem dL_from_102 : decode cL_from 102 = .ok (.iinc 5 1, 3) := by decide +kernel
theorem dL_from_105 : decode cL_from 105 = .ok (.goto (-33), 3) := by decide +kernel
theorem dL_from_108 : decode cL_from 108 = .ok (.iconst 0, 1) := by decide +kernel
theorem dL_from_109 : decode cL_from 109 = .ok (.istore 5, 2) := by decide +kernel
theorem dL_from_111 : decode cL_from 111 = .ok (.iload 5, 2) := by decide +kernel
theorem dL_from_113 : decode cL_from 113 = .ok (.aload_n 0, 1) := by decide +kernel
theorem dL_from_114 : decode cL_from 114 = .ok (.iconst 2, 1) := by decide +kernel
theorem dL_from_115 : decode cL_from 115 = .ok (.invokestatic 73, 3) := by decide +kernel
theorem dL_from_118 : decode cL_from 118 = .ok (.if_icmp .ge 51, 3) := by decide +kernel
theorem dL_from_121 : decode cL_from 121 = .ok (.iconst 0, 1) := by decide +kernel
theorem dL_from_122 : decode cL_from 122 = .ok (.istore 6, 2) := by decide +kernel
theorem dL_from_124 : decode cL_from 124 = .ok (.iload 6, 2) := by decide +kernel
theorem dL_from_126 : decode cL_from 126 = .ok (.bipush 10, 2) := by decide +kernel
theorem dL_from_128 : decode cL_from 128 = .ok (.if_icmp .ge 23, 3) := by decide +kernel
theorem dL_from_131 : decode cL_from 131 = .ok (.lload_n 3, 1) := by decide +kernel
theorem dL_from_132 : decode cL_from 132 = .ok (.aload_n 0, 1) := by decide +kernel
theorem dL_from_133 : decode cL_from 133 = .ok (.iload 5, 2) := by decide +kernel
theorem dL_from_135 : decode cL_from 135 = .ok (.iload 6, 2) := by decide +kernel
theorem dL_from_137 : decode cL_from 137 = .ok (.invokestatic 90, 3) := by decide +kernel
theorem dL_from_140 : decode cL_from 140 = .ok (.i2l, 1) := by decide +kernel
theorem dL_from_141 : decode cL_from 141 = .ok (.invokestatic 79, 3) := by decide +kernel
theorem dL_from_144 : decode cL_from 144 = .ok (.lstore_n 3, 1) := by decide +kernel
theorem dL_from_145 : decode cL_from 145 = .ok (.iinc 6 1, 3) := by decide +kernel
theorem dL_from_148 : decode cL_from 148 = .ok (.goto (-24), 3) := by decide +kernel
theorem dL_from_151 : decode cL_from 151 = .ok (.lload_n 3, 1) := by decide +kernel
theorem dL_from_152 : decode cL_from 152 = .ok (.aload_n 0, 1) := by decide +kernel
theorem dL_from_153 : decode cL_from 153 = .ok (.iload 5, 2) := by decide +kernel
theorem dL_from_155 : decode cL_from 155 = .ok (.invokestatic 93, 3) := by decide +kernel
theorem dL_from_158 : decode cL_from 158 = .ok (.i2l, 1) := by decide +kernel
theorem dL_from_159 : decode cL_from 159 = .ok (.invokestatic 79, 3) := by decide +kernel
theorem dL_from_162 : decode cL_from 162 = .ok (.lstore_n 3, 1) := by decide +kernel
theorem dL_from_163 : decode cL_from 163 = .ok (.iinc 5 1, 3) := by decide +kernel
theorem dL_from_166 : decode cL_from 166 = .ok (.goto (-55), 3) := by decide +kernel
theorem dL_from_169 : decode cL_from 169 = .ok (.iconst 0, 1) := by decide +kernel
theorem dL_from_170 : decode cL_from 170 = .ok (.istore 5, 2) := by decide +kernel
theorem dL_from_172 : decode cL_from 172 = .ok (.iload 5, 2) := by decide +kernel
theorem dL_from_174 : decode cL_from 174 = .ok (.bipush 30, 2) := by decide +kernel
theorem dL_from_176 : decode cL_from 176 = .ok (.if_icmp .ge 43, 3) := by decide +kernel
theorem dL_from_179 : decode cL_from 179 = .ok (.aload_n 0, 1) := by decide +kernel
theorem dL_from_180 : decode cL_from 180 = .ok (.iload 5, 2) := by decide +kernel
theorem dL_from_182 : decode cL_from 182 = .ok (.iconst 0, 1) := by decide +kernel
theorem dL_from_183 : decode cL_from 183 = .ok (.invokestatic 96, 3) := by decide +kernel
theorem dL_from_186 : decode cL_from 186 = .ok (.ifCond .lt 33, 3) := by decide +kernel
theorem dL_from_189 : decode cL_from 189 = .ok (.lload_n 3, 1) := by decide +kernel
theorem dL_from_190 : decode cL_from 190 = .ok (.aload_n 0, 1) := by decide +kernel
theorem dL_from_191 : decode cL_from 191 = .ok (.iload 5, 2) := by decide +kernel
theorem dL_from_193 : decode cL_from 193 = .ok (.iconst 0, 1) := by decide +kernel
theorem dL_from_194 : decode cL_from 194 = .ok (.invokestatic 96, 3) := by decide +kernel
theorem dL_from_197 : decode cL_from 197 = .ok (.i2l, 1) := by decide +kernel
theorem dL_from_198 : decode cL_from 198 = .ok (.invokestatic 79, 3) := by decide +kernel
theorem dL_from_201 : decode cL_from 201 = .ok (.aload_n 0, 1) := by decide +kernel
theorem dL_from_202 : decode cL_from 202 = .ok (.iload 5, 2) := by decide +kernel
theorem dL_from_204 : decode cL_from 204 = .ok (.iconst 1, 1) := by decide +kernel
theorem dL_from_205 : decode cL_from 205 = .ok (.invokestatic 96, 3) := by decide +kernel
theorem dL_from_208 : decode cL_from 208 = .ok (.i2l, 1) := by decide +kernel
theorem dL_from_209 : decode cL_from 209 = .ok (.invokestatic 79, 3) := by decide +kernel
theorem dL_from_212 : decode cL_from 212 = .ok (.lstore_n 3, 1) := by decide +kernel
theorem dL_from_213 : decode cL_from 213 = .ok (.iinc 5 1, 3) := by decide +kernel
theorem dL_from_216 : decode cL_from 216 = .ok (.goto (-44), 3) := by decide +kernel
theorem dL_from_219 : decode cL_from 219 = .ok (.lload_n 3, 1) := by decide +kernel
theorem dL_from_220 : decode cL_from 220 = .ok (.aload_n 0, 1) := by decide +kernel
theorem dL_from_221 : decode cL_from 221 = .ok (.invokevirtual 99, 3) := by decide +kernel
theorem dL_from_224 : decode cL_from 224 = .ok (.i2l, 1) := by decide +kernel
theorem dL_from_225 : decode cL_from 225 = .ok (.invokestatic 79, 3) := by decide +kernel
theorem dL_from_228 : decode cL_from 228 = .ok (.lreturn, 1) := by decide +kernel
set_option maxRecDepth 20000 in
theorem ggL_isDigest_L_mixed : GoodIn wsL_isDigest wsL_mixed := goodIn_r _ [5, 6] (by decide +kernel) (by decide +kernel)
set_option maxRecDepth 20000 in
theorem gL_isDigest_L_mixed : GoodIn wsL_isDigest (va_wsS RL 79 yL_mixed wsL_mixed) := goodIn_app (goodIn_of _ (by decide +kernel)) ggL_isDigest_L_mixed
set_option maxRecDepth 20000 in
theorem ggp0_0 : GoodIn wsL_isDigest wsL_from_r1 := goodIn_r _ [10, 11, 4, 12, 13, 14, 15, 16, 17, 18, 19, 20, 21, 22, 23, 24, 25, 26, 27, 28, 29, 30, 31, 32] (by decide +kernel) (by decide +kernel)
set_option maxRecDepth 20000 in
theorem ggp0_1 : GoodIn wsL_isDigest wsL_from_r2 := goodIn_r _ [33, 34, 35, 36, 37, 38, 39, 40, 41, 42, 43, 44, 45, 46, 47, 48, 49, 50, 51, 52, 53, 54, 55, 56] (by decide +kernel) (by decide +kernel)
set_option maxRecDepth 20000 in
theorem ggp0_2 : GoodIn wsL_isDigest wsL_from_r3 := goodIn_r _ [57, 2, 3, 5, 6, 58, 59, 60, 61, 62, 63, 64, 65, 66, 67, 68, 69, 70, 71, 72, 73, 74, 75, 76] (by decide +kernel) (by decide +kernel)
set_option maxRecDepth 20000 in
theorem ggp0_3 : GoodIn wsL_isDigest wsL_from_r4 := goodIn_r _ [77, 78, 79, 80, 81, 82, 83, 84, 85, 86, 87, 88, 89, 90, 91, 92, 93, 94, 95, 96, 97, 98, 99, 100] (by decide +kernel) (by decide +kernel)
set_option maxRecDepth 20000 in
theorem ggp0_4 : GoodIn wsL_isDigest wsL_from_r5 := goodIn_r _ [101, 102, 103, 104, 105, 106, 107, 108, 109, 110, 111, 112, 113, 114, 115, 116, 117, 118, 119, 120, 121, 122, 123, 124] (by decide +kernel) (by decide +kernel)
set_option maxRecDepth 20000 in
theorem ggp0_5 : GoodIn wsL_isDigest wsL_from_r6 := goodIn_r _ [125, 126, 127, 128, 129, 130, 131, 132, 133, 134, 135, 136, 137, 138, 139, 140, 141, 142, 143, 144, 145, 146, 147, 148] (by decide +kernel) (by decide +kernel)
set_option maxRecDepth 20000 in
theorem ggp0_6 : GoodIn wsL_isDigest wsL_from_r7 := goodIn_r _ [149, 150, 151, 152, 153, 154, 155, 156, 157, 158, 159, 160, 161, 162, 163, 164, 165, 166, 167, 168, 169, 170, 171, 172] (by decide +kernel) (by decide +kernel)
set_option maxRecDepth 20000 in
theorem ggp0_7 : GoodIn wsL_isDigest wsL_from_r8 := goodIn_r _ [173, 174, 175, 176, 177, 178, 179, 180, 181, 182, 183, 184, 185, 186, 187, 188, 189, 190, 191, 192, 193, 194, 195, 196] (by decide +kernel) (by decide +kernel)
set_option maxRecDepth 20000 in
theorem ggp0_8 : GoodIn wsL_isDigest wsL_from_r9 := goodIn_r _ [197, 198, 199, 200, 201, 202, 203, 204, 205, 206, 207, 208, 209, 210, 211, 212, 213, 214, 215, 216, 217, 218, 219, 220] (by decide +kernel) (by decide +kernel)
set_option maxRecDepth 20000 in
theorem ggp0_9 : GoodIn wsL_isDigest wsL_from_r10 := goodIn_r _ [221, 222, 223, 224, 225, 226, 227, 228, 229, 230, 231, 232, 233, 234, 235, 236, 237, 238, 239, 240, 241, 242, 243, 244] (by decide +kernel) (by decide +kernel)
set_option maxRecDepth 20000 in
theorem ggp0_10 : GoodIn wsL_isDigest wsL_from_r11 := goodIn_r _ [245, 246, 247, 248, 249, 250, 251, 252, 253, 254, 255, 256, 257, 258, 259, 260, 261, 262, 263, 264, 265, 266, 267, 268] (by decide +kernel) (by decide +kernel)
set_option maxRecDepth 20000 in
theorem ggp0_11 : GoodIn wsL_isDigest wsL_from_r12 := goodIn_r _ [269, 270, 271, 272, 273, 274, 275, 276, 277, 278, 279, 280, 281, 282, 283, 284, 285, 286, 287, 288, 289, 290] (by decide +kernel) (by decide +kernel)
set_option maxRecDepth 20000 in
theorem ggp0_12 : GoodIn wsL_isDigest wsX40 := goodIn_r _ [325, 326, 327, 328, 329] (by decide +kernel) (by decide +kernel)
set_option maxRecDepth 20000 in
theorem ggp0_13 : GoodIn wsL_isDigest wsX00 := goodIn_r _ [330, 331, 332, 333, 334, 335, 336, 337, 338] (by decide +kernel) (by decide +kernel)
set_option maxRecDepth 20000 in
theorem ggp0_14 : GoodIn wsL_isDigest wsX10 := goodIn_r _ [339, 340, 341, 342, 343, 344] (by decide +kernel) (by decide +kernel)
set_option maxRecDepth 20000 in
theorem ggp0_15 : GoodIn wsL_isDigest wsX30 := goodIn_r _ [345, 346, 347, 348, 349, 350, 351, 352] (by decide +kernel) (by decide +kernel)
set_option maxRecDepth 100000 in
theorem ggL_isDigest_L_from : GoodIn wsL_isDigest wsL_from := goodIn_ca (goodIn_ca (gc_big (List.mem_of_getElem? (i := 9) rfl) (goodIn_app (goodIn_app (goodIn_app (goodIn_app (goodIn_app ggp0_0 (goodIn_app ggp0_1 (goodIn_app ggp0_2 (goodIn_app ggp0_3 (goodIn_app ggp0_4 (goodIn_app ggp0_5 (goodIn_app ggp0_6 (goodIn_app ggp0_7 (goodIn_app ggp0_8 (goodIn_app ggp0_9 (goodIn_app ggp0_10 ggp0_11))))))))))) ggp0_12) ggp0_13) ggp0_14) ggp0_15)) (goodIn_sub (fun _ h => List.mem_cons_of_mem _ (List.mem_append_left _ (List.mem_append_right _ h))) (by decide +kernel))) (goodIn_sub (fun _ h => List.mem_cons_of_mem _ (List.mem_append_right _ h)) (by decide +kernel))
set_option maxRecDepth 20000 in
theorem gL_isDigest_L_from : GoodIn wsL_isDigest (va_wsS RL 104 yL_from wsL_from) := goodIn_app (goodIn_of _ (by decide +kernel)) ggL_isDigest_L_from
set_option maxRecDepth 20000 in
theorem ggp1_0 : GoodIn wsL_isDigest wsX4_digest_r1 := goodIn_r _ [295, 296, 297, 21, 27, 298, 299, 300, 17, 301, 302, 303, 15, 16, 18, 19, 20, 22, 23, 24, 25, 26, 28, 29] (by decide +kernel) (by decide +kernel)
set_option maxRecDepth 20000 in
theorem ggp1_1 : GoodIn wsL_isDigest wsX4_digest_r2 := goodIn_r _ [30, 31, 32, 33, 34, 35, 36, 37, 38, 39, 40, 41, 42, 43, 44, 45, 46, 47, 48, 49, 50, 51, 52, 53] (by decide +kernel) (by decide +kernel)
set_option maxRecDepth 20000 in
theorem ggp1_2 : GoodIn wsL_isDigest wsX4_digest_r3 := goodIn_r _ [54, 55, 56, 57, 304, 305, 306, 307, 308, 63, 64, 65, 66, 67, 68, 69, 70, 71, 72, 73, 74, 75, 76, 77] (by decide +kernel) (by decide +kernel)
set_option maxRecDepth 20000 in
theorem ggp1_3 : GoodIn wsL_isDigest wsX4_digest_r4 := goodIn_r _ [78, 79, 309, 310, 311, 312, 313, 84, 85, 86, 87, 88, 89, 90, 91, 92, 93, 94, 95, 96, 97, 98, 99, 100] (by decide +kernel) (by decide +kernel)
set_option maxRecDepth 20000 in
theorem ggp1_4 : GoodIn wsL_isDigest wsX4_digest_r5 := goodIn_r _ [101, 102, 103, 104, 105, 106, 107, 108, 109, 110, 111, 112, 113, 114, 115, 116, 314, 315, 316, 317, 318, 121, 122, 123] (by decide +kernel) (by decide +kernel)
set_option maxRecDepth 20000 in
theorem ggp1_5 : GoodIn wsL_isDigest wsX4_digest_r6 := goodIn_r _ [124, 125, 126, 127, 128, 129, 130, 131, 132, 133, 134, 135, 136, 137, 138, 139, 140, 141, 142, 143, 144, 145, 146, 319] (by decide +kernel) (by decide +kernel)
set_option maxRecDepth 20000 in
theorem ggp1_6 : GoodIn wsL_isDigest wsX4_digest_r7 := goodIn_r _ [151, 152, 153, 154, 155, 156, 157, 158, 159, 160, 161, 162, 163, 164, 165, 166, 167, 168, 169, 170, 171, 172, 320, 321] (by decide +kernel) (by decide +kernel)
set_option maxRecDepth 20000 in
theorem ggp1_7 : GoodIn wsL_isDigest wsX4_digest_r8 := goodIn_r _ [322, 323, 182, 183, 184, 185, 186, 187, 188, 324, 177, 178, 179, 180, 181, 189, 194, 195, 196, 197, 198, 199, 200, 201] (by decide +kernel) (by decide +kernel)
set_option maxRecDepth 20000 in
theorem ggp1_8 : GoodIn wsL_isDigest wsX4_digest_r9 := goodIn_r _ [202, 203, 204, 205, 206, 207, 208, 209, 210, 211, 212, 213, 214, 215, 216, 217, 218, 219, 220, 221, 222, 223, 224, 225] (by decide +kernel) (by decide +kernel)
set_option maxRecDepth 20000 in
theorem ggp1_9 : GoodIn wsL_isDigest wsX4_digest_r10 := goodIn_r _ [226, 227, 228, 229, 230, 231, 232, 233, 234, 235, 236, 237, 238, 239, 240, 241, 242, 243, 244, 245, 246, 247, 248, 249] (by decide +kernel) (by decide +kernel)
set_option maxRecDepth 20000 in
theorem ggp1_10 : GoodIn wsL_isDigest wsX4_digest_r11 := goodIn_r _ [250, 251, 252, 253, 254, 255, 256, 257, 258, 259, 260, 261, 262, 263, 264, 265, 266, 267, 268, 269, 270, 271, 272, 273] (by decide +kernel) (by decide +kernel)
set_option maxRecDepth 20000 in
theorem ggp1_11 : GoodIn wsL_isDigest wsX4_digest_r12 := goodIn_r _ [274, 275, 276, 277, 278, 279, 280, 281, 282, 283, 284, 285, 286, 287, 288, 289, 290] (by decide +kernel) (by decide +kernel)
set_option maxRecDepth 20000 in
theorem ggp1_12 : GoodIn wsL_isDigest wsX40 := goodIn_r _ [325, 326, 327, 328, 329] (by decide +kernel) (by decide +kernel)
set_option maxRecDepth 20000 in
theorem ggp1_13 : GoodIn wsL_isDigest wsX20 := goodIn_r _ [353, 354] (by decide +kernel) (by decide +kernel)
set_option maxRecDepth 20000 in
theorem ggp1_14 : GoodIn wsL_isDigest wsX00 := goodIn_r _ [330, 331, 332, 333, 334, 335, 336, 337, 338] (by decide +kernel) (by decide +kernel)
set_option maxRecDepth 20000 in
theorem ggp1_15 : GoodIn wsL_isDigest wsX10 := goodIn_r _ [339, 340, 341, 342, 343, 344] (by decide +kernel) (by decide +kernel)
set_option maxRecDepth 20000 in
theorem ggp1_16 : GoodIn wsL_isDigest wsX30 := goodIn_r _ [345, 346, 347, 348, 349, 350, 351, 352] (by decide +kernel) (by decide +kernel)
set_option maxRecDepth 100000 in
theorem ggL_isDigest_X4_digest : GoodIn wsL_isDigest wsX4_digest := goodIn_ca (goodIn_ca (gc_big (List.mem_of_getElem? (i := 294) rfl) (goodIn_app (goodIn_app (goodIn_app (goodIn_app (goodIn_app (goodIn_app ggp1_0 (goodIn_app ggp1_1 (goodIn_app ggp1_2 (goodIn_app ggp1_3 (goodIn_app ggp1_4 (goodIn_app ggp1_5 (goodIn_app ggp1_6 (goodIn_app ggp1_7 (goodIn_app ggp1_8 (goodIn_app ggp1_9 (goodIn_app ggp1_10 ggp1_11))))))))))) ggp1_12) ggp1_13) ggp1_14) ggp1_15) ggp1_16)) (goodIn_sub (fun _ h => List.mem_cons_of_mem _ (List.mem_append_left _ (List.mem_append_right _ h))) (by decide +kernel))) (goodIn_sub (fun _ h => List.mem_cons_of_mem _ (List.mem_append_right _ h)) (by decide +kernel))
set_option maxRecDepth 20000 in
theorem gL_isDigest_X4_digest : GoodIn wsL_isDigest (wsV RL 108 RX4 yX4_digest wsX4_digest) := goodIn_app (goodIn_of _ (by decide +kernel)) ggL_isDigest_X4_digest
theorem dL_isDigest_0 : decode cL_isDigest 0 = .ok (.aload_n 0, 1) := by decide +kernel
theorem dL_isDigest_1 : decode cL_isDigest 1 = .ok (.ldc2_w 102, 3) := by decide +kernel
theorem dL_isDigest_4 : decode cL_isDigest 4 = .ok (.iload_n 1, 1) := by decide +kernel
theorem dL_isDigest_5 : decode cL_isDigest 5 = .ok (.i2l, 1) := by decide +kernel
theorem dL_isDigest_6 : decode cL_isDigest 6 = .ok (.invokestatic 79, 3) := by decide +kernel
theorem dL_isDigest_9 : decode cL_isDigest 9 = .ok (.invokestatic 104, 3) := by decide +kernel
theorem dL_isDigest_12 : decode cL_isDigest 12 = .ok (.iload_n 2, 1) := by decide +kernel
theorem dL_isDigest_13 : decode cL_isDigest 13 = .ok (.i2l, 1) := by decide +kernel
theorem dL_isDigest_14 : decode cL_isDigest 14 = .ok (.invokestatic 79, 3) := by decide +kernel
theorem dL_isDigest_17 : decode cL_isDigest 17 = .ok (.aload_n 0, 1) := by decide +kernel
theorem dL_isDigest_18 : decode cL_isDigest 18 = .ok (.invokevirtual 108, 3) := by decide +kernel
theorem dL_isDigest_21 : decode cL_isDigest 21 = .ok (.lcmp, 1) := by decide +kernel
theorem dL_isDigest_22 : decode cL_isDigest 22 = .ok (.ifCond .ne 7, 3) := by decide +kernel
theorem dL_isDigest_25 : decode cL_isDigest 25 = .ok (.iconst 1, 1) := by decide +kernel
theorem dL_isDigest_26 : decode cL_isDigest 26 = .ok (.goto 4, 3) := by decide +kernel
theorem dL_isDigest_29 : decode cL_isDigest 29 = .ok (.iconst 0, 1) := by decide +kernel
theorem dL_isDigest_30 : decode cL_isDigest 30 = .ok (.ireturn, 1) := by decide +kernel
set_option maxRecDepth 20000 in
theorem ggL_refusesPlaces_L_all : GoodIn wsL_refusesPlaces wsL_all := goodIn_ca (goodIn_r _ [4, 5, 6, 7, 8, 9, 10, 11, 12, 13, 14, 15, 16, 17, 18, 19, 20, 21, 22, 23, 24, 25, 26, 27, 28, 29, 30, 31, 32, 33, 34, 35, 36, 37, 38, 39, 40, 41, 42, 43, 44, 45, 46, 47, 48, 49, 350, 351, 352, 353, 354, 355, 356, 357, 358, 359, 360, 361, 362, 363, 364, 365, 366, 367, 368, 369, 370, 371, 372, 373, 374, 375, 376, 377] (by decide +kernel) (by decide +kernel)) (goodIn_sub (fun _ h => List.mem_cons_of_mem _ (List.mem_append_left _ (List.mem_append_left _ (List.mem_append_right _ h)))) (by decide +kernel))
set_option maxRecDepth 20000 in
theorem gL_refusesPlaces_L_all : GoodIn wsL_refusesPlaces (va_wsS RL 73 yL_all wsL_all) := goodIn_app (goodIn_of _ (by decide +kernel)) ggL_refusesPlaces_L_all
set_option maxRecDepth 20000 in
theorem ggL_refusesPlaces_L_adding : GoodIn wsL_refusesPlaces wsL_adding := goodIn_ca (goodIn_ca (goodIn_r _ [52, 53, 54, 55, 56, 57, 9, 58, 59, 60, 13, 17, 61, 62, 63, 64, 65, 66, 14, 16, 67, 68, 69, 24, 70, 71, 37, 38, 72, 73, 74, 42, 75, 76, 77, 78, 79, 80, 81, 36, 82, 83, 84, 85, 86, 87, 88, 89, 90, 91, 92, 93, 94, 95, 96, 97, 98, 99, 100, 101, 102, 103, 27, 104, 105, 26, 106, 107, 108, 109, 45, 110, 111, 112, 44, 113, 114, 115, 116, 117, 118, 119, 120, 121, 122, 123, 124, 125, 126, 127, 128, 129, 130, 131, 132, 133, 134, 135, 136, 137, 138, 350, 351, 352, 353, 354, 355, 356, 357, 358, 359, 360, 361, 362, 363, 364, 365, 366, 367, 368, 369, 370, 371, 372, 373, 374, 375, 376, 377] (by decide +kernel) (by decide +kernel)) (goodIn_sub (fun _ h => List.mem_cons_of_mem _ (List.mem_append_left _ (List.mem_append_right _ h))) (by decide +kernel))) (goodIn_sub (fun _ h => List.mem_cons_of_mem _ (List.mem_append_right _ h)) (by decide +kernel))
set_option maxRecDepth 20000 in
theorem gL_refusesPlaces_L_adding : GoodIn wsL_refusesPlaces (va_wsS RL 112 yL_adding wsL_adding) := goodIn_app (goodIn_of _ (by decide +kernel)) ggL_refusesPlaces_L_adding
set_option maxRecDepth 20000 in
theorem ggL_refusesPlaces_L_rescuing : GoodIn wsL_refusesPlaces wsL_rescuing := goodIn_ca (goodIn_ca (goodIn_r _ [141, 53, 54, 142, 143, 144, 9, 145, 59, 60, 13, 146, 147, 148, 14, 149, 150, 151, 152, 153, 65, 66, 17, 88, 89, 90, 91, 92, 93, 94, 95, 96, 24, 97, 71, 37, 98, 99, 100, 101, 102, 103, 27, 104, 36, 105, 26, 106, 107, 108, 42, 109, 45, 110, 111, 112, 76, 44, 77, 113, 114, 115, 116, 117, 118, 119, 120, 121, 122, 123, 124, 125, 154, 155, 156, 157, 87, 82, 158, 136, 137, 138, 350, 351, 352, 353, 354, 355, 356, 357, 358, 359, 360, 361, 362, 363, 370, 371, 372, 373, 374, 375, 376, 377, 364, 365, 366, 367, 368, 369] (by decide +kernel) (by decide +kernel)) (goodIn_sub (fun _ h => List.mem_cons_of_mem _ (List.mem_append_left _ (List.mem_append_right _ h))) (by decide +kernel))) (goodIn_sub (fun _ h => List.mem_cons_of_mem _ (List.mem_append_right _ h)) (by decide +kernel))
set_option maxRecDepth 20000 in
theorem gL_refusesPlaces_L_rescuing : GoodIn wsL_refusesPlaces (va_wsS RL 115 yL_rescuing wsL_rescuing) := goodIn_app (goodIn_of _ (by decide +kernel)) ggL_refusesPlaces_L_rescuing
set_option maxRecDepth 20000 in
theorem ggL_refusesPlaces_L_setting : GoodIn wsL_refusesPlaces wsL_setting := goodIn_ca (goodIn_ca (goodIn_r _ [161, 53, 5, 162, 163, 164, 9, 165, 65, 66, 11, 12, 166, 167, 13, 19, 88, 89, 90, 91, 92, 93, 94, 95, 96, 24, 97, 71, 37, 98, 99, 100, 101, 102, 103, 27, 104, 36, 105, 26, 106, 107, 108, 42, 109, 45, 110, 111, 112, 76, 44, 77, 113, 114, 115, 116, 117, 118, 119, 120, 121, 122, 123, 124, 125, 350, 351, 352, 353, 354, 355, 356, 357, 358, 359, 360, 361, 362, 363, 364, 365, 366, 367, 368, 369, 370, 371, 372, 373, 374, 375, 376, 377] (by decide +kernel) (by decide +kernel)) (goodIn_sub (fun _ h => List.mem_cons_of_mem _ (List.mem_append_right _ h)) (by decide +kernel))) (goodIn_sub (fun _ h => List.mem_cons_of_mem _ (List.mem_append_left _ (List.mem_append_left _ (List.mem_append_right _ h)))) (by decide +kernel))
set_option maxRecDepth 20000 in
theorem gL_refusesPlaces_L_setting : GoodIn wsL_refusesPlaces (va_wsS RL 118 yL_setting wsL_setting) := goodIn_app (goodIn_of _ (by decide +kernel)) ggL_refusesPlaces_L_setting
