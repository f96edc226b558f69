set_option maxRecDepth 20000 in
theorem ggL_texts_L_types : GoodIn wsL_texts wsL_types := goodIn_ca (goodIn_ca (goodIn_r _ [168, 169, 170, 171, 23, 172, 173, 174, 175, 176, 177, 19, 178, 179, 180, 181, 182, 41, 183, 145, 146, 147, 40, 148, 92, 91, 479, 480, 481, 482, 483, 493, 494] (by decide +kernel) (by decide +kernel)) (goodIn_sub (fun _ h => List.mem_cons_of_mem _ (List.mem_append_left _ (List.mem_append_left _ (List.mem_append_right _ h)))) (by decide +kernel))) (goodIn_sub (fun _ h => List.mem_cons_of_mem _ (List.mem_append_left _ (List.mem_append_right _ h))) (by decide +kernel))
set_option maxRecDepth 20000 in
theorem gL_texts_L_types : GoodIn wsL_texts (va_wsS RL 146 yL_types wsL_types) := goodIn_app (goodIn_of _ (by decide +kernel)) ggL_texts_L_types
set_option maxRecDepth 20000 in
theorem ggL_texts_L_typing : GoodIn wsL_texts wsL_typing := goodIn_ca (goodIn_ca (goodIn_r _ [172, 173, 174, 175, 176, 177, 19, 178, 179, 180, 181, 182, 41, 183, 145, 146, 147, 40, 148, 92, 91, 479, 480, 481, 482, 483, 493, 494] (by decide +kernel) (by decide +kernel)) (goodIn_sub (fun _ h => List.mem_cons_of_mem _ (List.mem_append_left _ (List.mem_append_left _ (List.mem_append_right _ h)))) (by decide +kernel))) (goodIn_sub (fun _ h => List.mem_cons_of_mem _ (List.mem_append_left _ (List.mem_append_right _ h))) (by decide +kernel))
set_option maxRecDepth 20000 in
theorem gL_texts_L_typing : GoodIn wsL_texts (va_wsS RL 140 yL_typing wsL_typing) := goodIn_app (goodIn_of _ (by decide +kernel)) ggL_texts_L_typing
set_option maxRecDepth 20000 in
theorem ggL_texts_X4_parse : GoodIn wsL_texts wsX4_parse := goodIn_r _ [438, 41, 34, 198, 199, 439, 440, 441, 40, 442, 92, 91, 443, 444, 445, 446, 447, 448, 449, 450, 451, 452, 453, 19, 454, 37, 36, 356, 357, 358, 33, 359, 49, 51, 58, 360, 361, 362, 363, 60, 61, 62, 63, 64, 65, 364, 365, 366, 48, 367, 71, 368, 72, 73, 74, 75, 76, 369, 370, 371, 67, 372, 80, 81, 82, 83, 84, 85, 86, 87, 149, 150, 151, 152, 153, 154, 155, 156, 157, 158, 159, 160, 161, 162, 163, 164, 165, 479, 480, 481, 482, 483, 484, 485, 486, 487, 488, 489, 490, 491, 492, 495, 496, 497, 498, 499, 500, 493, 494, 501, 502, 503, 504, 505, 506, 507, 508] (by decide +kernel) (by decide +kernel)
set_option maxRecDepth 20000 in
theorem gL_texts_X4_parse : GoodIn wsL_texts (wsV RL 150 RX4 yX4_parse wsX4_parse) := goodIn_app (goodIn_of _ (by decide +kernel)) ggL_texts_X4_parse
set_option maxRecDepth 20000 in
theorem ggL_texts_L_all : GoodIn wsL_texts wsL_all := goodIn_ca (goodIn_r _ [464, 173, 465, 195, 196, 19, 197, 179, 180, 34, 198, 199, 200, 201, 202, 189, 203, 204, 205, 206, 33, 207, 65, 61, 208, 209, 210, 211, 212, 213, 214, 215, 63, 51, 216, 217, 218, 219, 48, 220, 75, 71, 221, 222, 223, 224, 479, 480, 481, 482, 483, 484, 485, 486, 487, 488, 489, 490, 491, 492, 495, 496, 497, 498, 499, 500, 501, 502, 503, 504, 505, 506, 507, 508] (by decide +kernel) (by decide +kernel)) (goodIn_sub (fun _ h => List.mem_cons_of_mem _ (List.mem_append_left _ (List.mem_append_left _ (List.mem_append_right _ h)))) (by decide +kernel))
set_option maxRecDepth 20000 in
theorem gL_texts_L_all : GoodIn wsL_texts (va_wsS RL 73 yL_all wsL_all) := goodIn_app (goodIn_of _ (by decide +kernel)) ggL_texts_L_all
set_option maxRecDepth 20000 in
theorem ggL_texts_L_blockBy : GoodIn wsL_texts wsL_blockBy := goodIn_ca (goodIn_ca (goodIn_r _ [468, 469, 173, 470, 252, 253, 19, 254, 179, 180, 34, 198, 255, 256, 257, 258, 259, 260, 240, 241, 200, 261, 262, 263, 48, 264, 265, 266, 267, 268, 74, 76, 269, 270, 271, 272, 75, 273, 274, 275, 276, 277, 278, 279, 33, 280, 63, 49, 281, 51, 246, 479, 480, 481, 482, 483, 484, 485, 486, 487, 488, 489, 490, 491, 492, 495, 496, 497, 498, 499, 500, 501, 502, 503, 504, 505, 506, 507, 508] (by decide +kernel) (by decide +kernel)) (goodIn_sub (fun _ h => List.mem_cons_of_mem _ (List.mem_append_left _ (List.mem_append_left _ (List.mem_append_right _ h)))) (by decide +kernel))) (goodIn_sub (fun _ h => List.mem_cons_of_mem _ (List.mem_append_right _ h)) (by decide +kernel))
set_option maxRecDepth 20000 in
theorem gL_texts_L_blockBy : GoodIn wsL_texts (va_wsS RL 87 yL_blockBy wsL_blockBy) := goodIn_app (goodIn_of _ (by decide +kernel)) ggL_texts_L_blockBy
set_option maxRecDepth 20000 in
theorem ggL_texts_X4_clearText : GoodIn wsL_texts wsX4_clearText := goodIn_r _ [474, 41, 183, 475, 476, 477, 40, 478, 92, 479, 480, 481, 482, 483, 493, 494] (by decide +kernel) (by decide +kernel)
set_option maxRecDepth 20000 in
theorem gL_texts_X4_clearText : GoodIn wsL_texts (wsV RL 195 RX4 yX4_clearText wsX4_clearText) := goodIn_app (goodIn_of _ (by decide +kernel)) ggL_texts_X4_clearText
set_option maxRecDepth 20000 in
theorem ggL_texts_L_undoing : GoodIn wsL_texts wsL_undoing := goodIn_ca (goodIn_r _ [457, 174, 458, 459, 460, 19, 461, 181, 182, 37, 34, 36, 356, 357, 358, 33, 359, 49, 51, 58, 360, 361, 362, 363, 60, 61, 62, 63, 64, 65, 364, 365, 366, 48, 367, 71, 368, 72, 73, 74, 75, 76, 369, 370, 371, 67, 372, 80, 81, 82, 83, 84, 85, 86, 87, 479, 480, 481, 482, 483, 484, 485, 486, 487, 488, 489, 490, 491, 492, 495, 496, 497, 498, 499, 500, 501, 502, 503, 504, 505, 506, 507, 508] (by decide +kernel) (by decide +kernel)) (goodIn_sub (fun _ h => List.mem_cons_of_mem _ (List.mem_append_left _ (List.mem_append_right _ h))) (by decide +kernel))
set_option maxRecDepth 20000 in
theorem gL_texts_L_undoing : GoodIn wsL_texts (va_wsS RL 153 yL_undoing wsL_undoing) := goodIn_app (goodIn_of _ (by decide +kernel)) ggL_texts_L_undoing
theorem dL_texts_0 : decode cL_texts 0 = .ok (.lconst 0, 1) := by decide +kernel
theorem dL_texts_1 : decode cL_texts 1 = .ok (.lconst 0, 1) := by decide +kernel
theorem dL_texts_2 : decode cL_texts 2 = .ok (.lconst 0, 1) := by decide +kernel
theorem dL_texts_3 : decode cL_texts 3 = .ok (.invokestatic 157, 3) := by decide +kernel
theorem dL_texts_6 : decode cL_texts 6 = .ok (.bipush (-10), 2) := by decide +kernel
theorem dL_texts_8 : decode cL_texts 8 = .ok (.if_icmp .ne 41, 3) := by decide +kernel
theorem dL_texts_11 : decode cL_texts 11 = .ok (.ldc2_w 161, 3) := by decide +kernel
theorem dL_texts_14 : decode cL_texts 14 = .ok (.lconst 0, 1) := by decide +kernel
theorem dL_texts_15 : decode cL_texts 15 = .ok (.lconst 0, 1) := by decide +kernel
theorem dL_texts_16 : decode cL_texts 16 = .ok (.invokestatic 157, 3) := by decide +kernel
theorem dL_texts_19 : decode cL_texts 19 = .ok (.iconst 4, 1) := by decide +kernel
theorem dL_texts_20 : decode cL_texts 20 = .ok (.if_icmp .ne 29, 3) := by decide +kernel
theorem dL_texts_23 : decode cL_texts 23 = .ok (.ldc2_w 163, 3) := by decide +kernel
theorem dL_texts_26 : decode cL_texts 26 = .ok (.lconst 0, 1) := by decide +kernel
theorem dL_texts_27 : decode cL_texts 27 = .ok (.lconst 0, 1) := by decide +kernel
theorem dL_texts_28 : decode cL_texts 28 = .ok (.invokestatic 157, 3) := by decide +kernel
theorem dL_texts_31 : decode cL_texts 31 = .ok (.bipush (-16), 2) := by decide +kernel
theorem dL_texts_33 : decode cL_texts 33 = .ok (.if_icmp .ne 16, 3) := by decide +kernel
theorem dL_texts_36 : decode cL_texts 36 = .ok (.ldc2_w 165, 3) := by decide +kernel
theorem dL_texts_39 : decode cL_texts 39 = .ok (.lconst 0, 1) := by decide +kernel
theorem dL_texts_40 : decode cL_texts 40 = .ok (.lconst 0, 1) := by decide +kernel
theorem dL_texts_41 : decode cL_texts 41 = .ok (.invokestatic 157, 3) := by decide +kernel
theorem dL_texts_44 : decode cL_texts 44 = .ok (.bipush (-18), 2) := by decide +kernel
theorem dL_texts_46 : decode cL_texts 46 = .ok (.if_icmp .eq 5, 3) := by decide +kernel
theorem dL_texts_49 : decode cL_texts 49 = .ok (.iconst 0, 1) := by decide +kernel
theorem dL_texts_50 : decode cL_texts 50 = .ok (.ireturn, 1) := by decide +kernel
theorem dL_texts_51 : decode cL_texts 51 = .ok (.ldc2_w 167, 3) := by decide +kernel
theorem dL_texts_54 : decode cL_texts 54 = .ok (.lconst 0, 1) := by decide +kernel
theorem dL_texts_55 : decode cL_texts 55 = .ok (.lconst 0, 1) := by decide +kernel
theorem dL_texts_56 : decode cL_texts 56 = .ok (.invokestatic 157, 3) := by decide +kernel
theorem dL_texts_59 : decode cL_texts 59 = .ok (.bipush (-17), 2) := by decide +kernel
theorem dL_texts_61 : decode cL_texts 61 = .ok (.if_icmp .ne 42, 3) := by decide +kernel
theorem dL_texts_64 : decode cL_texts 64 = .ok (.ldc2_w 169, 3) := by decide +kernel
theorem dL_texts_67 : decode cL_texts 67 = .ok (.lconst 0, 1) := by decide +kernel
theorem dL_texts_68 : decode cL_texts 68 = .ok (.lconst 0, 1) := by decide +kernel
theorem dL_texts_69 : decode cL_texts 69 = .ok (.invokestatic 157, 3) := by decide +kernel
theorem dL_texts_72 : decode cL_texts 72 = .ok (.bipush (-10), 2) := by decide +kernel
theorem dL_texts_74 : decode cL_texts 74 = .ok (.if_icmp .ne 29, 3) := by decide +kernel
theorem dL_texts_77 : decode cL_texts 77 = .ok (.ldc2_w 171, 3) := by decide +kernel
theorem dL_texts_80 : decode cL_texts 80 = .ok (.lconst 0, 1) := by decide +kernel
theorem dL_texts_81 : decode cL_texts 81 = .ok (.lconst 0, 1) := by decide +kernel
theorem dL_texts_82 : decode cL_texts 82 = .ok (.invokestatic 157, 3) := by decide +kernel
theorem dL_texts_85 : decode cL_texts 85 = .ok (.bipush (-11), 2) := by decide +kernel
theorem dL_texts_87 : decode cL_texts 87 = .ok (.if_icmp .ne 16, 3) := by decide +kernel
theorem dL_texts_90 : decode cL_texts 90 = .ok (.ldc2_w 173, 3) := by decide +kernel
theorem dL_texts_93 : decode cL_texts 93 = .ok (.lconst 0, 1) := by decide +kernel
theorem dL_texts_94 : decode cL_texts 94 = .ok (.lconst 0, 1) := by decide +kernel
theorem dL_texts_95 : decode cL_texts 95 = .ok (.invokestatic 157, 3) := by decide +kernel
theorem dL_texts_98 : decode cL_texts 98 = .ok (.bipush (-11), 2) := by decide +kernel
theorem dL_texts_100 : decode cL_texts 100 = .ok (.if_icmp .eq 5, 3) := by decide +kernel
theorem dL_texts_103 : decode cL_texts 103 = .ok (.iconst 0, 1) := by decide +kernel
theorem dL_texts_104 : decode cL_texts 104 = .ok (.ireturn, 1) := by decide +kernel
theorem dL_texts_105 : decode cL_texts 105 = .ok (.ldc2_w 161, 3) := by decide +kernel
theorem dL_texts_108 : decode cL_texts 108 = .ok (.ldc2_w 175, 3) := by decide +kernel
theorem dL_texts_111 : decode cL_texts 111 = .ok (.lconst 0, 1) := by decide +kernel
theorem dL_texts_112 : decode cL_texts 112 = .ok (.invokestatic 157, 3) := by decide +kernel
theorem dL_texts_115 : decode cL_texts 115 = .ok (.bipush (-18), 2) := by decide +kernel
theorem dL_texts_117 : decode cL_texts 117 = .ok (.if_icmp .ne 43, 3) := by decide +kernel
theorem dL_texts_120 : decode cL_texts 120 = .ok (.ldc2_w 161, 3) := by decide +kernel
theorem dL_texts_123 : decode cL_texts 123 = .ok (.ldc2_w 177, 3) := by decide +kernel
theorem dL_texts_126 : decode cL_texts 126 = .ok (.lconst 0, 1) := by decide +kernel
theorem dL_texts_127 : decode cL_texts 127 = .ok (.invokestatic 157, 3) := by decide +kernel
theorem dL_texts_130 : decode cL_texts 130 = .ok (.bipush (-18), 2) := by decide +kernel
theorem dL_texts_132 : decode cL_texts 132 = .ok (.if_icmp .ne 28, 3) := by decide +kernel
theorem dL_texts_135 : decode cL_texts 135 = .ok (.ldc2_w 179, 3) := by decide +kernel
theorem dL_texts_138 : decode cL_texts 138 = .ok (.lconst 0, 1) := by decide +kernel
theorem dL_texts_139 : decode cL_texts 139 = .ok (.lconst 0, 1) := by decide +kernel
theorem dL_texts_140 : decode cL_texts 140 = .ok (.invokestatic 157, 3) := by decide +kernel
theorem dL_texts_143 : decode cL_texts 143 = .ok (.bipush (-11), 2) := by decide +kernel
theorem dL_texts_145 : decode cL_texts 145 = .ok (.if_icmp .ne 15, 3) := by decide +kernel
theorem dL_texts_148 : decode cL_texts 148 = .ok (.ldc2_w 181, 3) := by decide +kernel
theorem dL_texts_151 : decode cL_texts 151 = .ok (.lconst 0, 1) := by decide +kernel
theorem dL_texts_152 : decode cL_texts 152 = .ok (.lconst 0, 1) := by decide +kernel
theorem dL_texts_153 : decode cL_texts 153 = .ok (.invokestatic 157, 3) := by decide +kernel
theorem dL_texts_156 : decode cL_texts 156 = .ok (.iconst 4, 1) := by decide +kernel
theorem dL_texts_157 : decode cL_texts 157 = .ok (.if_icmp .eq 5, 3) := by decide +kernel
theorem dL_texts_160 : decode cL_texts 160 = .ok (.iconst 0, 1) := by decide +kernel
theorem dL_texts_161 : decode cL_texts 161 = .ok (.ireturn, 1) := by decide +kernel
theorem dL_texts_162 : decode cL_texts 162 = .ok (.ldc2_w 183, 3) := by decide +kernel
theorem dL_texts_165 : decode cL_texts 165 = .ok (.ldc2_w 183, 3) := by decide +kernel
theorem dL_texts_168 : decode cL_texts 168 = .ok (.lconst 0, 1) := by decide +kernel
theorem dL_texts_169 : decode cL_texts 169 = .ok (.invokestatic 157, 3) := by decide +kernel
theorem dL_texts_172 : decode cL_texts 172 = .ok (.bipush 8, 2) := by decide +kernel
theorem dL_texts_174 : decode cL_texts 174 = .ok (.if_icmp .ne 50, 3) := by decide +kernel
theorem dL_texts_177 : decode cL_texts 177 = .ok (.ldc2_w 183, 3) := by decide +kernel
theorem dL_texts_180 : decode cL_texts 180 = .ok (.ldc2_w 183, 3) := by decide +kernel
theorem dL_texts_183 : decode cL_texts 183 = .ok (.ldc2_w 185, 3) := by decide +kernel
theorem dL_texts_186 : decode cL_texts 186 = .ok (.invokestatic 157, 3) := by decide +kernel
theorem dL_texts_189 : decode cL_texts 189 = .ok (.bipush (-27), 2) := by decide +kernel
theorem dL_texts_191 : decode cL_texts 191 = .ok (.if_icmp .ne 33, 3) := by decide +kernel
theorem dL_texts_194 : decode cL_texts 194 = .ok (.ldc2_w 183, 3) := by decide +kernel
theorem dL_texts_197 : decode cL_texts 197 = .ok (.ldc2_w 183, 3) := by decide +kernel
theorem dL_texts_200 : decode cL_texts 200 = .ok (.ldc2_w 187, 3) := by decide +kernel
theorem dL_texts_203 : decode cL_texts 203 = .ok (.invokestatic 157, 3) := by decide +kernel
theorem dL_texts_206 : decode cL_texts 206 = .ok (.bipush 9, 2) := by decide +kernel
theorem dL_texts_208 : decode cL_texts 208 = .ok (.if_icmp .ne 16, 3) := by decide +kernel
theorem dL_texts_211 : decode cL_texts 211 = .ok (.ldc2_w 189, 3) := by decide +kernel
theorem dL_texts_214 : decode cL_texts 214 = .ok (.lconst 0, 1) := by decide +kernel
theorem dL_texts_215 : decode cL_texts 215 = .ok (.lconst 0, 1) := by decide +kernel
theorem dL_texts_216 : decode cL_texts 216 = .ok (.invokestatic 157, 3) := by decide +kernel
theorem dL_texts_219 : decode cL_texts 219 = .ok (.bipush (-11), 2) := by decide +kernel
theorem dL_texts_221 : decode cL_texts 221 = .ok (.if_icmp .eq 5, 3) := by decide +kernel
theorem dL_texts_224 : decode cL_texts 224 = .ok (.iconst 0, 1) := by decide +kernel
theorem dL_texts_225 : decode cL_texts 225 = .ok (.ireturn, 1) := by decide +kernel
theorem dL_texts_226 : decode cL_texts 226 = .ok (.ldc2_w 191, 3) := by decide +kernel
theorem dL_texts_229 : decode cL_texts 229 = .ok (.lconst 0, 1) := by decide +kernel
theorem dL_texts_230 : decode cL_texts 230 = .ok (.lconst 0, 1) := by decide +kernel
theorem dL_texts_231 : decode cL_texts 231 = .ok (.invokestatic 157, 3) := by decide +kernel
theorem dL_texts_234 : decode cL_texts 234 = .ok (.bipush (-16), 2) := by decide +kernel
theorem dL_texts_236 : decode cL_texts 236 = .ok (.if_icmp .eq 5, 3) := by decide +kernel
theorem dL_texts_239 : decode cL_texts 239 = .ok (.iconst 0, 1) := by decide +kernel
theorem dL_texts_240 : decode cL_texts 240 = .ok (.ireturn, 1) := by decide +kernel
theorem dL_texts_241 : decode cL_texts 241 = .ok (.new 10, 3) := by decide +kernel
theorem dL_texts_244 : decode cL_texts 244 = .ok (.dup, 1) := by decide +kernel
theorem dL_texts_245 : decode cL_texts 245 = .ok (.invokespecial 145, 3) := by decide +kernel
theorem dL_texts_248 : decode cL_texts 248 = .ok (.astore_n 0, 1) := by decide +kernel
theorem dL_texts_249 : decode cL_texts 249 = .ok (.aload_n 0, 1) := by decide +kernel
theorem dL_texts_250 : decode cL_texts 250 = .ok (.ldc2_w 193, 3) := by decide +kernel
theorem dL_texts_253 : decode cL_texts 253 = .ok (.invokestatic 146, 3) := by decide +kernel
theorem dL_texts_256 : decode cL_texts 256 = .ok (.iconst 0, 1) := by decide +kernel
theorem dL_texts_257 : decode cL_texts 257 = .ok (.istore_n 1, 1) := by decide +kernel
theorem dL_texts_258 : decode cL_texts 258 = .ok (.iload_n 1, 1) := by decide +kernel
theorem dL_texts_259 : decode cL_texts 259 = .ok (.bipush 56, 2) := by decide +kernel
theorem dL_texts_261 : decode cL_texts 261 = .ok (.if_icmp .ge 34, 3) := by decide +kernel
theorem dL_texts_264 : decode cL_texts 264 = .ok (.aload_n 0, 1) := by decide +kernel
theorem dL_texts_265 : decode cL_texts 265 = .ok (.iload_n 1, 1) := by decide +kernel
theorem dL_texts_266 : decode cL_texts 266 = .ok (.iconst 2, 1) := by decide +kernel
theorem dL_texts_267 : decode cL_texts 267 = .ok (.irem, 1) := by decide +kernel
theorem dL_texts_268 : decode cL_texts 268 = .ok (.ifCond .ne 8, 3) := by decide +kernel
theorem dL_texts_271 : decode cL_texts 271 = .ok (.bipush 51, 2) := by decide +kernel
theorem dL_texts_273 : decode cL_texts 273 = .ok (.goto 5, 3) := by decide +kernel
theorem dL_texts_276 : decode cL_texts 276 = .ok (.bipush 46, 2) := by decide +kernel
theorem dL_texts_278 : decode cL_texts 278 = .ok (.invokestatic 140, 3) := by decide +kernel
theorem dL_texts_281 : decode cL_texts 281 = .ok (.iconst 5, 1) := by decide +kernel
theorem dL_texts_282 : decode cL_texts 282 = .ok (.iload_n 1, 1) := by decide +kernel
theorem dL_texts_283 : decode cL_texts 283 = .ok (.iadd, 1) := by decide +kernel
theorem dL_texts_284 : decode cL_texts 284 = .ok (.if_icmp .eq 5, 3) := by decide +kernel
theorem dL_texts_287 : decode cL_texts 287 = .ok (.iconst 0, 1) := by decide +kernel
theorem dL_texts_288 : decode cL_texts 288 = .ok (.ireturn, 1) := by decide +kernel
theorem dL_texts_289 : decode cL_texts 289 = .ok (.iinc 1 1, 3) := by decide +kernel
theorem dL_texts_292 : decode cL_texts 292 = .ok (.goto (-34), 3) := by decide +kernel
theorem dL_texts_295 : decode cL_texts 295 = .ok (.aload_n 0, 1) := by decide +kernel
theorem dL_texts_296 : decode cL_texts 296 = .ok (.invokevirtual 150, 3) := by decide +kernel
theorem dL_texts_299 : decode cL_texts 299 = .ok (.bipush 30, 2) := by decide +kernel
theorem dL_texts_301 : decode cL_texts 301 = .ok (.if_icmp .ne 83, 3) := by decide +kernel
theorem dL_texts_304 : decode cL_texts 304 = .ok (.aload_n 0, 1) := by decide +kernel
theorem dL_texts_305 : decode cL_texts 305 = .ok (.iconst 0, 1) := by decide +kernel
theorem dL_texts_306 : decode cL_texts 306 = .ok (.invokestatic 73, 3) := by decide +kernel
theorem dL_texts_309 : decode cL_texts 309 = .ok (.bipush 30, 2) := by decide +kernel
theorem dL_texts_311 : decode cL_texts 311 = .ok (.if_icmp .ne 73, 3) := by decide +kernel
theorem dL_texts_314 : decode cL_texts 314 = .ok (.aload_n 0, 1) := by decide +kernel
theorem dL_texts_315 : decode cL_texts 315 = .ok (.iconst 1, 1) := by decide +kernel
theorem dL_texts_316 : decode cL_texts 316 = .ok (.invokestatic 73, 3) := by decide +kernel
theorem dL_texts_319 : decode cL_texts 319 = .ok (.iconst 2, 1) := by decide +kernel
theorem dL_texts_320 : decode cL_texts 320 = .ok (.if_icmp .ne 64, 3) := by decide +kernel
theorem dL_texts_323 : decode cL_texts 323 = .ok (.aload_n 0, 1) := by decide +kernel
theorem dL_texts_324 : decode cL_texts 324 = .ok (.iconst 0, 1) := by decide +kernel
theorem dL_texts_325 : decode cL_texts 325 = .ok (.iconst 2, 1) := by decide +kernel
theorem dL_texts_326 : decode cL_texts 326 = .ok (.invokestatic 87, 3) := by decide +kernel
theorem dL_texts_329 : decode cL_texts 329 = .ok (.bipush 29, 2) := by decide +kernel
theorem dL_texts_331 : decode cL_texts 331 = .ok (.if_icmp .ne 53, 3) := by decide +kernel
theorem dL_texts_334 : decode cL_texts 334 = .ok (.aload_n 0, 1) := by decide +kernel
theorem dL_texts_335 : decode cL_texts 335 = .ok (.iconst 0, 1) := by decide +kernel
theorem dL_texts_336 : decode cL_texts 336 = .ok (.iconst 0, 1) := by decide +kernel
theorem dL_texts_337 : decode cL_texts 337 = .ok (.invokestatic 87, 3) := by decide +kernel
theorem dL_texts_340 : decode cL_texts 340 = .ok (.iconst 2, 1) := by decide +kernel
theorem dL_texts_341 : decode cL_texts 341 = .ok (.if_icmp .ne 43, 3) := by decide +kernel
theorem dL_texts_344 : decode cL_texts 344 = .ok (.aload_n 0, 1) := by decide +kernel
theorem dL_texts_345 : decode cL_texts 345 = .ok (.bipush 48, 2) := by decide +kernel
theorem dL_texts_347 : decode cL_texts 347 = .ok (.invokestatic 140, 3) := by decide +kernel
theorem dL_texts_350 : decode cL_texts 350 = .ok (.bipush 61, 2) := by decide +kernel
theorem dL_texts_352 : decode cL_texts 352 = .ok (.if_icmp .ne 32, 3) := by decide +kernel
theorem dL_texts_355 : decode cL_texts 355 = .ok (.aload_n 0, 1) := by decide +kernel
theorem dL_texts_356 : decode cL_texts 356 = .ok (.invokevirtual 150, 3) := by decide +kernel
theorem dL_texts_359 : decode cL_texts 359 = .ok (.bipush (-70), 2) := by decide +kernel
theorem dL_texts_361 : decode cL_texts 361 = .ok (.if_icmp .ne 23, 3) := by decide +kernel
theorem dL_texts_364 : decode cL_texts 364 = .ok (.aload_n 0, 1) := by decide +kernel
theorem dL_texts_365 : decode cL_texts 365 = .ok (.iconst 0, 1) := by decide +kernel
theorem dL_texts_366 : decode cL_texts 366 = .ok (.invokestatic 73, 3) := by decide +kernel
theorem dL_texts_369 : decode cL_texts 369 = .ok (.bipush 30, 2) := by decide +kernel
theorem dL_texts_371 : decode cL_texts 371 = .ok (.if_icmp .ne 13, 3) := by decide +kernel
theorem dL_texts_374 : decode cL_texts 374 = .ok (.aload_n 0, 1) := by decide +kernel
theorem dL_texts_375 : decode cL_texts 375 = .ok (.bipush 11, 2) := by decide +kernel
theorem dL_texts_377 : decode cL_texts 377 = .ok (.invokestatic 73, 3) := by decide +kernel
theorem dL_texts_380 : decode cL_texts 380 = .ok (.iconst 3, 1) := by decide +kernel
theorem dL_texts_381 : decode cL_texts 381 = .ok (.if_icmp .eq 5, 3) := by decide +kernel
theorem dL_texts_384 : decode cL_texts 384 = .ok (.iconst 0, 1) := by decide +kernel
theorem dL_texts_385 : decode cL_texts 385 = .ok (.ireturn, 1) := by decide +kernel
theorem dL_texts_386 : decode cL_texts 386 = .ok (.bipush 62, 2) := by decide +kernel
theorem dL_texts_388 : decode cL_texts 388 = .ok (.istore_n 1, 1) := by decide +kernel
theorem dL_texts_389 : decode cL_texts 389 = .ok (.iload_n 1, 1) := by decide +kernel
theorem dL_texts_390 : decode cL_texts 390 = .ok (.bipush 90, 2) := by decide +kernel
theorem dL_texts_392 : decode cL_texts 392 = .ok (.if_icmp .gt 21, 3) := by decide +kernel
theorem dL_texts_395 : decode cL_texts 395 = .ok (.aload_n 0, 1) := by decide +kernel
theorem dL_texts_396 : decode cL_texts 396 = .ok (.bipush 46, 2) := by decide +kernel
theorem dL_texts_398 : decode cL_texts 398 = .ok (.invokestatic 140, 3) := by decide +kernel
theorem dL_texts_401 : decode cL_texts 401 = .ok (.iload_n 1, 1) := by decide +kernel
theorem dL_texts_402 : decode cL_texts 402 = .ok (.if_icmp .eq 5, 3) := by decide +kernel
theorem dL_texts_405 : decode cL_texts 405 = .ok (.iconst 0, 1) := by decide +kernel
theorem dL_texts_406 : decode cL_texts 406 = .ok (.ireturn, 1) := by decide +kernel
theorem dL_texts_407 : decode cL_texts 407 = .ok (.iinc 1 1, 3) := by decide +kernel
theorem dL_texts_410 : decode cL_texts 410 = .ok (.goto (-21), 3) := by decide +kernel
theorem dL_texts_413 : decode cL_texts 413 = .ok (.aload_n 0, 1) := by decide +kernel
theorem dL_texts_414 : decode cL_texts 414 = .ok (.bipush 46, 2) := by decide +kernel
theorem dL_texts_416 : decode cL_texts 416 = .ok (.invokestatic 140, 3) := by decide +kernel
theorem dL_texts_419 : decode cL_texts 419 = .ok (.sipush (-3003), 3) := by decide +kernel
theorem dL_texts_422 : decode cL_texts 422 = .ok (.if_icmp .ne 81, 3) := by decide +kernel
theorem dL_texts_425 : decode cL_texts 425 = .ok (.aload_n 0, 1) := by decide +kernel
theorem dL_texts_426 : decode cL_texts 426 = .ok (.sipush 128, 3) := by decide +kernel
theorem dL_texts_429 : decode cL_texts 429 = .ok (.invokestatic 140, 3) := by decide +kernel
theorem dL_texts_432 : decode cL_texts 432 = .ok (.sipush (-3002), 3) := by decide +kernel
theorem dL_texts_435 : decode cL_texts 435 = .ok (.if_icmp .ne 68, 3) := by decide +kernel
theorem dL_texts_438 : decode cL_texts 438 = .ok (.aload_n 0, 1) := by decide +kernel
theorem dL_texts_439 : decode cL_texts 439 = .ok (.invokevirtual 150, 3) := by decide +kernel
theorem dL_texts_442 : decode cL_texts 442 = .ok (.bipush (-70), 2) := by decide +kernel
theorem dL_texts_444 : decode cL_texts 444 = .ok (.if_icmp .ne 59, 3) := by decide +kernel
theorem dL_texts_447 : decode cL_texts 447 = .ok (.aload_n 0, 1) := by decide +kernel
theorem dL_texts_448 : decode cL_texts 448 = .ok (.invokevirtual 195, 3) := by decide +kernel
theorem dL_texts_451 : decode cL_texts 451 = .ok (.bipush 90, 2) := by decide +kernel
theorem dL_texts_453 : decode cL_texts 453 = .ok (.if_icmp .ne 50, 3) := by decide +kernel
theorem dL_texts_456 : decode cL_texts 456 = .ok (.aload_n 0, 1) := by decide +kernel
theorem dL_texts_457 : decode cL_texts 457 = .ok (.invokevirtual 195, 3) := by decide +kernel
theorem dL_texts_460 : decode cL_texts 460 = .ok (.ifCond .ne 43, 3) := by decide +kernel
theorem dL_texts_463 : decode cL_texts 463 = .ok (.aload_n 0, 1) := by decide +kernel
theorem dL_texts_464 : decode cL_texts 464 = .ok (.invokevirtual 150, 3) := by decide +kernel
theorem dL_texts_467 : decode cL_texts 467 = .ok (.bipush (-10), 2) := by decide +kernel
theorem dL_texts_469 : decode cL_texts 469 = .ok (.if_icmp .ne 34, 3) := by decide +kernel
theorem dL_texts_472 : decode cL_texts 472 = .ok (.aload_n 0, 1) := by decide +kernel
theorem dL_texts_473 : decode cL_texts 473 = .ok (.invokestatic 153, 3) := by decide +kernel
theorem dL_texts_476 : decode cL_texts 476 = .ok (.ifCond .ne 27, 3) := by decide +kernel
theorem dL_texts_479 : decode cL_texts 479 = .ok (.aload_n 0, 1) := by decide +kernel
theorem dL_texts_480 : decode cL_texts 480 = .ok (.iconst 0, 1) := by decide +kernel
theorem dL_texts_481 : decode cL_texts 481 = .ok (.invokestatic 73, 3) := by decide +kernel
theorem dL_texts_484 : decode cL_texts 484 = .ok (.bipush 14, 2) := by decide +kernel
theorem dL_texts_486 : decode cL_texts 486 = .ok (.if_icmp .ne 17, 3) := by decide +kernel
theorem dL_texts_489 : decode cL_texts 489 = .ok (.aload_n 0, 1) := by decide +kernel
theorem dL_texts_490 : decode cL_texts 490 = .ok (.invokestatic 153, 3) := by decide +kernel
theorem dL_texts_493 : decode cL_texts 493 = .ok (.sipush (-3003), 3) := by decide +kernel
theorem dL_texts_496 : decode cL_texts 496 = .ok (.if_icmp .ne 7, 3) := by decide +kernel
theorem dL_texts_499 : decode cL_texts 499 = .ok (.iconst 1, 1) := by decide +kernel
theorem dL_texts_500 : decode cL_texts 500 = .ok (.goto 4, 3) := by decide +kernel
theorem dL_texts_503 : decode cL_texts 503 = .ok (.iconst 0, 1) := by decide +kernel
theorem dL_texts_504 : decode cL_texts 504 = .ok (.ireturn, 1) := by decide +kernel
set_option maxRecDepth 20000 in
theorem ggL_known_X4_init : GoodIn wsL_known wsX4_init := goodIn_r _ [6, 7, 8, 9, 10, 11, 12, 13, 14, 15, 16, 17, 18, 19, 20, 21, 22, 23, 24, 25, 26, 27, 28, 29, 30, 31, 32, 33, 34, 35, 36, 37, 38, 39, 40, 41, 42, 43, 44, 45, 46, 47, 48, 49, 50, 51, 52, 53, 54, 55, 56, 57, 58, 59, 60, 61, 62, 63, 64, 65, 66, 67, 68, 69, 70, 71, 72, 73, 3, 74, 75, 76, 77, 78, 79, 80, 81, 82, 83, 84, 85, 86, 87, 88, 89, 90, 91, 92, 93, 94, 95, 96, 97, 98, 99, 100, 101, 102, 103, 104, 105, 106, 107, 108, 109, 110, 111, 112, 113, 114, 115, 116, 117, 118, 119, 120, 121, 122, 123, 124, 125, 126, 127, 128, 129, 130, 131, 132, 133, 134, 135, 136, 137, 138, 139, 140, 141, 142, 143, 144, 562, 563, 564, 565, 566, 567, 568, 569, 570, 557, 558, 559, 560, 561, 571, 572, 573, 574, 575, 576, 577, 578, 579, 580, 581, 582, 583, 584, 585, 586] (by decide +kernel) (by decide +kernel)
set_option maxRecDepth 20000 in
theorem gL_known_X4_init : GoodIn wsL_known (wsX4_init) := ggL_known_X4_init
set_option maxRecDepth 20000 in
theorem ggp6_0 : GoodIn wsL_known wsL_refused_r1 := goodIn_r _ [149, 150, 151, 3, 152, 153, 20, 154, 13, 155, 16, 156, 157, 158, 159, 160, 161, 162, 163, 164, 165, 166, 167, 168] (by decide +kernel) (by decide +kernel)
set_option maxRecDepth 20000 in
theorem ggp6_1 : GoodIn wsL_known wsL_refused_r2 := goodIn_r _ [169, 170, 171, 172, 173, 174, 12, 175, 44, 40, 176, 177, 178, 179, 180, 181, 182, 183, 42, 30, 184, 185, 186, 187] (by decide +kernel) (by decide +kernel)
set_option maxRecDepth 20000 in
theorem ggp6_2 : GoodIn wsL_known wsL_refused_r3 := goodIn_r _ [27, 188, 54, 50, 189, 190, 191, 192, 193, 194, 195, 196, 197, 198, 199, 200, 201, 202, 203, 204, 205, 206, 207, 208] (by decide +kernel) (by decide +kernel)
set_option maxRecDepth 20000 in
theorem ggp6_3 : GoodIn wsL_known wsL_refused_r4 := goodIn_r _ [209, 210, 211, 212, 213, 214, 215, 216, 217, 218, 219, 220, 221, 222, 223, 224, 225, 226, 227, 228, 229, 230, 231, 232] (by decide +kernel) (by decide +kernel)
set_option maxRecDepth 20000 in
theorem ggp6_4 : GoodIn wsL_known wsL_refused_r5 := goodIn_r _ [233, 234, 235, 236, 53, 55, 237, 238, 239, 240, 241, 242, 243, 244, 245, 246, 247, 248, 28, 249, 250, 251, 252, 253] (by decide +kernel) (by decide +kernel)
set_option maxRecDepth 20000 in
theorem ggp6_5 : GoodIn wsL_known wsL_refused_r6 := goodIn_r _ [254, 255, 256, 257, 258, 259, 260, 261, 262, 263, 264, 265, 266, 267, 268, 269, 270, 271, 272, 273, 274, 275, 276, 277] (by decide +kernel) (by decide +kernel)
set_option maxRecDepth 20000 in
theorem ggp6_6 : GoodIn wsL_known wsL_refused_r7 := goodIn_r _ [278, 279, 37, 280, 281, 282, 283, 284, 285, 286, 287, 288, 43, 289, 290, 291, 292, 293, 294, 295, 296, 297, 298, 299] (by decide +kernel) (by decide +kernel)
set_option maxRecDepth 20000 in
theorem ggp6_7 : GoodIn wsL_known wsL_refused_r8 := goodIn_r _ [300, 301, 302, 303, 304, 305, 306, 307, 308, 309, 310, 311, 312, 313, 314, 315, 316, 317, 318, 319, 320, 321, 322, 323] (by decide +kernel) (by decide +kernel)
set_option maxRecDepth 20000 in
theorem ggp6_8 : GoodIn wsL_known wsL_refused_r9 := goodIn_r _ [14, 324, 325, 326, 327, 328, 329, 330, 331, 39, 41, 332, 333, 334, 335, 336, 51, 52, 337, 338, 339, 46, 340, 59] (by decide +kernel) (by decide +kernel)
set_option maxRecDepth 20000 in
theorem ggp6_9 : GoodIn wsL_known wsL_refused_r10 := goodIn_r _ [60, 61, 62, 63, 64, 65, 66, 341, 342, 343, 344, 345, 346, 347, 348, 349, 350, 351, 352, 353, 354, 355, 356, 357] (by decide +kernel) (by decide +kernel)
set_option maxRecDepth 20000 in
theorem ggp6_10 : GoodIn wsL_known wsL_refused_r11 := goodIn_r _ [358, 359, 360, 361, 362, 363, 364, 365, 366, 367, 368, 369, 370, 371, 372, 373, 374, 375, 376, 377, 378, 379, 380, 381] (by decide +kernel) (by decide +kernel)
set_option maxRecDepth 20000 in
theorem ggp6_11 : GoodIn wsL_known wsL_refused_r12 := goodIn_r _ [382, 383, 384, 385, 386, 387, 388, 389, 390, 391, 392, 393, 394, 395, 396, 397, 398, 399, 400, 401, 402, 403, 404, 147] (by decide +kernel) (by decide +kernel)
set_option maxRecDepth 20000 in
theorem ggp6_12 : GoodIn wsL_known wsL_refused_r13 := goodIn_r _ [405, 406, 407, 408, 409, 410, 411, 412, 413, 414, 415, 416, 417, 418, 419, 420, 421, 422, 423, 424, 425, 426, 15, 427] (by decide +kernel) (by decide +kernel)
set_option maxRecDepth 20000 in
theorem ggp6_13 : GoodIn wsL_known wsL_refused_r14 := goodIn_r _ [428, 429, 430, 431, 432, 433, 434, 435, 436, 437, 438, 439, 440, 441, 442, 443, 444, 445, 446, 447, 448, 449, 450, 451] (by decide +kernel) (by decide +kernel)
set_option maxRecDepth 20000 in
theorem ggp6_14 : GoodIn wsL_known wsL_refused_r15 := goodIn_r _ [452, 453, 454, 455, 456, 457, 458, 459, 460, 461, 462, 463, 464, 465, 466, 467, 468, 469, 470, 471, 472, 473, 474, 475] (by decide +kernel) (by decide +kernel)
set_option maxRecDepth 20000 in
theorem ggp6_15 : GoodIn wsL_known wsL_refused_r16 := goodIn_r _ [476, 477, 478, 479, 480, 481, 482, 483, 484, 485, 486, 487, 488, 489, 490, 491, 492, 493, 494, 495, 496, 497, 498, 499] (by decide +kernel) (by decide +kernel)
set_option maxRecDepth 20000 in
theorem ggp6_16 : GoodIn wsL_known wsL_refused_r17 := goodIn_r _ [500, 501, 502, 503, 504, 505, 506, 507, 508, 509, 510, 511, 512, 513, 514, 515, 516, 517, 518, 519, 520, 521, 522, 523] (by decide +kernel) (by decide +kernel)
set_option maxRecDepth 20000 in
theorem ggp6_17 : GoodIn wsL_known wsL_refused_r18 := goodIn_r _ [524, 525, 526, 124, 125, 126, 19, 127, 71, 70] (by decide +kernel) (by decide +kernel)
set_option maxRecDepth 20000 in
theorem ggp6_18 : GoodIn wsL_known wsX40 := goodIn_r _ [557, 558, 559, 560, 561] (by decide +kernel) (by decide +kernel)
set_option maxRecDepth 20000 in
theorem ggp6_19 : GoodIn wsL_known wsX20 := goodIn_r _ [571, 572] (by decide +kernel) (by decide +kernel)
set_option maxRecDepth 20000 in
theorem ggp6_20 : GoodIn wsL_known wsX00 := goodIn_r _ [562, 563, 564, 565, 566, 567, 568, 569, 570] (by decide +kernel) (by decide +kernel)
set_option maxRecDepth 20000 in
theorem ggp6_21 : GoodIn wsL_known wsX10 := goodIn_r _ [573, 574, 575, 576, 577, 578] (by decide +kernel) (by decide +kernel)
set_option maxRecDepth 20000 in
theorem ggp6_22 : GoodIn wsL_known wsX30 := goodIn_r _ [579, 580, 581, 582, 583, 584, 585, 586] (by decide +kernel) (by decide +kernel)
