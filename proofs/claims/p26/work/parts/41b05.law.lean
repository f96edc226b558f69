set_option maxRecDepth 100000 in
theorem ggL_refused_X4_digest : GoodIn wsL_refused wsX4_digest := goodIn_ca (goodIn_ca (gc_big (List.mem_of_getElem? (i := 5) rfl) (goodIn_app (goodIn_app (goodIn_app (goodIn_app (goodIn_app (goodIn_app ggp2_0 (goodIn_app ggp2_1 (goodIn_app ggp2_2 (goodIn_app ggp2_3 (goodIn_app ggp2_4 (goodIn_app ggp2_5 (goodIn_app ggp2_6 (goodIn_app ggp2_7 (goodIn_app ggp2_8 (goodIn_app ggp2_9 (goodIn_app ggp2_10 ggp2_11))))))))))) ggp2_12) ggp2_13) ggp2_14) ggp2_15) ggp2_16)) (goodIn_sub (fun _ h => List.mem_cons_of_mem _ (List.mem_append_left _ (List.mem_append_left _ (List.mem_append_right _ h)))) (by decide +kernel))) (goodIn_sub (fun _ h => List.mem_cons_of_mem _ (List.mem_append_left _ (List.mem_append_right _ h))) (by decide +kernel))
set_option maxRecDepth 20000 in
theorem gL_refused_X4_digest : GoodIn wsL_refused (wsV RL 108 RX4 yX4_digest wsX4_digest) := goodIn_app (goodIn_of _ (by decide +kernel)) ggL_refused_X4_digest
set_option maxRecDepth 20000 in
theorem ggp3_0 : GoodIn wsL_refused wsL_refusesPlaces_r1 := goodIn_r _ [290, 291, 288, 292, 293, 294, 17, 18, 4, 19, 20, 21, 9, 22, 23, 24, 25, 26, 10, 27, 28, 29, 30, 31] (by decide +kernel) (by decide +kernel)
set_option maxRecDepth 20000 in
theorem ggp3_1 : GoodIn wsL_refused wsL_refusesPlaces_r2 := goodIn_r _ [32, 33, 34, 35, 36, 37, 38, 39, 40, 41, 42, 43, 44, 45, 46, 47, 48, 49, 50, 51, 52, 53, 54, 55] (by decide +kernel) (by decide +kernel)
set_option maxRecDepth 20000 in
theorem ggp3_2 : GoodIn wsL_refused wsL_refusesPlaces_r3 := goodIn_r _ [56, 295, 296, 297, 298, 299, 300, 301, 302, 303, 304, 305, 89, 90, 91, 92, 72, 73, 306, 164, 165, 166, 115, 167] (by decide +kernel) (by decide +kernel)
set_option maxRecDepth 20000 in
theorem ggp3_3 : GoodIn wsL_refused wsL_refusesPlaces_r4 := goodIn_r _ [98, 99, 100, 101, 102, 168, 75, 76, 77, 78, 169, 112, 113, 114, 116, 307, 308, 309, 310, 11, 311, 194, 195, 196] (by decide +kernel) (by decide +kernel)
set_option maxRecDepth 20000 in
theorem ggp3_4 : GoodIn wsL_refused wsL_refusesPlaces_r5 := goodIn_r _ [197, 147, 198, 199, 200, 201, 202, 203, 157, 204, 205, 206, 207, 208, 209, 210, 211, 212, 213, 214, 215, 216, 217, 218] (by decide +kernel) (by decide +kernel)
set_option maxRecDepth 20000 in
theorem ggp3_5 : GoodIn wsL_refused wsL_refusesPlaces_r6 := goodIn_r _ [219, 220, 221, 222, 223, 312, 313, 314, 315, 316, 317, 318, 319, 320, 321, 273, 274, 275, 322, 323, 324, 325, 326, 327] (by decide +kernel) (by decide +kernel)
set_option maxRecDepth 20000 in
theorem ggp3_6 : GoodIn wsL_refused wsL_refusesPlaces_r7 := goodIn_r _ [328, 125, 130, 126, 87, 134, 135, 136, 137, 138, 139, 140, 141, 329, 330, 331, 332, 333, 334, 335, 336, 337, 338, 339] (by decide +kernel) (by decide +kernel)
set_option maxRecDepth 20000 in
theorem ggp3_7 : GoodIn wsL_refused wsL_refusesPlaces_r8 := goodIn_r _ [340, 341, 342, 343, 344, 345, 65, 68, 69, 70, 71, 346, 347, 348, 349, 122, 123, 124, 127, 128, 129, 131, 132, 133] (by decide +kernel) (by decide +kernel)
set_option maxRecDepth 20000 in
theorem ggp3_8 : GoodIn wsL_refused wsL_refusesPlaces_r9 := goodIn_r _ [142, 143, 144, 145, 146, 350, 351, 352, 353, 62, 63, 64, 66, 67, 74, 354, 355, 356, 357, 84, 85, 86, 88, 93] (by decide +kernel) (by decide +kernel)
set_option maxRecDepth 20000 in
theorem ggp3_9 : GoodIn wsL_refused wsL_refusesPlaces_r10 := goodIn_r _ [94, 95, 96, 97, 103, 104, 105, 106, 107, 108, 109, 110, 111, 358, 359, 360, 361, 149, 150, 151, 152, 153, 154, 155] (by decide +kernel) (by decide +kernel)
set_option maxRecDepth 20000 in
theorem ggp3_10 : GoodIn wsL_refused wsL_refusesPlaces_r11 := goodIn_r _ [156, 158, 159, 160, 161, 162, 163, 170, 362, 363, 364, 365, 366, 367, 368, 193, 224, 225, 226, 227, 228, 229, 230, 231] (by decide +kernel) (by decide +kernel)
set_option maxRecDepth 20000 in
theorem ggp3_11 : GoodIn wsL_refused wsL_refusesPlaces_r12 := goodIn_r _ [232, 233, 234, 235, 236, 237, 238, 239, 240, 241, 242, 243, 244, 245, 246, 247, 248, 249, 250, 251, 252, 253, 254, 255] (by decide +kernel) (by decide +kernel)
set_option maxRecDepth 20000 in
theorem ggp3_12 : GoodIn wsL_refused wsL_refusesPlaces_r13 := goodIn_r _ [256, 257, 180, 181, 258, 259, 260, 261, 262, 263, 264, 265, 266, 267, 268, 269, 270, 271, 272, 276, 277, 278, 279, 280] (by decide +kernel) (by decide +kernel)
set_option maxRecDepth 20000 in
theorem ggp3_13 : GoodIn wsL_refused wsL_refusesPlaces_r14 := goodIn_r _ [281, 282, 283, 284, 285, 369, 370, 371, 372, 373, 374, 375, 376, 377, 378, 379, 380, 381, 382, 383, 384, 385, 386, 387] (by decide +kernel) (by decide +kernel)
set_option maxRecDepth 20000 in
theorem ggp3_14 : GoodIn wsL_refused wsL_refusesPlaces_r15 := goodIn_r _ [388, 389, 183, 184, 185, 186, 187, 175, 176, 177, 178, 179, 188] (by decide +kernel) (by decide +kernel)
set_option maxRecDepth 20000 in
theorem ggp3_15 : GoodIn wsL_refused wsX40 := goodIn_r _ [419, 420, 421, 422, 423] (by decide +kernel) (by decide +kernel)
set_option maxRecDepth 20000 in
theorem ggp3_16 : GoodIn wsL_refused wsX00 := goodIn_r _ [426, 427, 428, 429, 430, 431, 432, 433, 434] (by decide +kernel) (by decide +kernel)
set_option maxRecDepth 20000 in
theorem ggp3_17 : GoodIn wsL_refused wsX10 := goodIn_r _ [435, 436, 437, 438, 439, 440] (by decide +kernel) (by decide +kernel)
set_option maxRecDepth 20000 in
theorem ggp3_18 : GoodIn wsL_refused wsX30 := goodIn_r _ [441, 442, 443, 444, 445, 446, 447, 448] (by decide +kernel) (by decide +kernel)
set_option maxRecDepth 100000 in
theorem ggL_refused_L_refusesPlaces : GoodIn wsL_refused wsL_refusesPlaces := goodIn_ca (goodIn_ca (goodIn_ca (gc_big (List.mem_of_getElem? (i := 289) rfl) (goodIn_app (goodIn_app (goodIn_app (goodIn_app (goodIn_app ggp3_0 (goodIn_app ggp3_1 (goodIn_app ggp3_2 (goodIn_app ggp3_3 (goodIn_app ggp3_4 (goodIn_app ggp3_5 (goodIn_app ggp3_6 (goodIn_app ggp3_7 (goodIn_app ggp3_8 (goodIn_app ggp3_9 (goodIn_app ggp3_10 (goodIn_app ggp3_11 (goodIn_app ggp3_12 (goodIn_app ggp3_13 ggp3_14)))))))))))))) ggp3_15) ggp3_16) ggp3_17) ggp3_18)) (goodIn_sub (fun _ h => List.mem_cons_of_mem _ (List.mem_append_left _ (List.mem_append_left _ (List.mem_append_right _ h)))) (by decide +kernel))) (goodIn_sub (fun _ h => List.mem_cons_of_mem _ (List.mem_append_right _ h)) (by decide +kernel))) (goodIn_sub (fun _ h => List.mem_cons_of_mem _ (List.mem_append_left _ (List.mem_append_right _ h))) (by decide +kernel))
set_option maxRecDepth 20000 in
theorem gL_refused_L_refusesPlaces : GoodIn wsL_refused (va_wsS RL 130 yL_refusesPlaces wsL_refusesPlaces) := goodIn_app (goodIn_of _ (by decide +kernel)) ggL_refused_L_refusesPlaces
set_option maxRecDepth 20000 in
theorem ggL_refused_L_setting : GoodIn wsL_refused wsL_setting := goodIn_ca (goodIn_ca (goodIn_r _ [332, 298, 293, 333, 334, 335, 4, 336, 72, 73, 20, 21, 337, 338, 9, 10, 307, 308, 309, 310, 11, 311, 194, 195, 196, 31, 197, 115, 44, 147, 198, 199, 200, 201, 202, 34, 203, 43, 157, 33, 204, 205, 206, 49, 207, 52, 208, 209, 210, 101, 51, 102, 211, 212, 213, 214, 215, 216, 217, 218, 219, 220, 221, 222, 223, 419, 420, 421, 422, 423, 426, 427, 428, 429, 430, 431, 432, 433, 434, 435, 436, 437, 438, 439, 440, 441, 442, 443, 444, 445, 446, 447, 448] (by decide +kernel) (by decide +kernel)) (goodIn_sub (fun _ h => List.mem_cons_of_mem _ (List.mem_append_left _ (List.mem_append_right _ h))) (by decide +kernel))) (goodIn_sub (fun _ h => List.mem_cons_of_mem _ (List.mem_append_left _ (List.mem_append_left _ (List.mem_append_right _ h)))) (by decide +kernel))
set_option maxRecDepth 20000 in
theorem gL_refused_L_setting : GoodIn wsL_refused (va_wsS RL 118 yL_setting wsL_setting) := goodIn_app (goodIn_of _ (by decide +kernel)) ggL_refused_L_setting
set_option maxRecDepth 20000 in
theorem ggL_refused_L_heighten : GoodIn wsL_refused wsL_heighten := goodIn_ca (goodIn_ca (goodIn_r _ [341, 298, 293, 342, 343, 344, 4, 345, 20, 21, 9, 22, 65, 68, 69, 70, 71, 72, 73, 23, 307, 308, 309, 310, 11, 311, 194, 195, 196, 31, 197, 115, 44, 147, 198, 199, 200, 201, 202, 34, 203, 43, 157, 33, 204, 205, 206, 49, 207, 52, 208, 209, 210, 101, 51, 102, 211, 212, 213, 214, 215, 216, 217, 218, 219, 220, 221, 222, 223, 419, 420, 421, 422, 423, 426, 427, 428, 429, 430, 431, 432, 433, 434, 435, 436, 437, 438, 439, 440, 441, 442, 443, 444, 445, 446, 447, 448] (by decide +kernel) (by decide +kernel)) (goodIn_sub (fun _ h => List.mem_cons_of_mem _ (List.mem_append_left _ (List.mem_append_left _ (List.mem_append_right _ h)))) (by decide +kernel))) (goodIn_sub (fun _ h => List.mem_cons_of_mem _ (List.mem_append_left _ (List.mem_append_right _ h))) (by decide +kernel))
set_option maxRecDepth 20000 in
theorem gL_refused_L_heighten : GoodIn wsL_refused (va_wsS RL 121 yL_heighten wsL_heighten) := goodIn_app (goodIn_of _ (by decide +kernel)) ggL_refused_L_heighten
set_option maxRecDepth 20000 in
theorem ggL_refused_L_passing : GoodIn wsL_refused wsL_passing := goodIn_ca (goodIn_ca (goodIn_r _ [392, 293, 299, 393, 394, 395, 4, 396, 20, 21, 304, 305, 9, 26, 397, 27, 307, 308, 309, 310, 11, 311, 194, 195, 196, 31, 197, 115, 44, 147, 198, 199, 200, 201, 202, 34, 203, 43, 157, 33, 204, 205, 206, 49, 207, 52, 208, 209, 210, 101, 51, 102, 211, 212, 213, 214, 215, 216, 217, 218, 219, 220, 221, 222, 223, 224, 225, 226, 227, 45, 228, 229, 230, 231, 156, 232, 153, 154, 155, 158, 139, 140, 141, 116, 78, 159, 160, 161, 162, 163, 164, 165, 166, 167, 98, 99, 100, 168, 75, 76, 77, 169, 112, 113, 114, 170, 29, 30, 32, 35, 36, 37, 38, 233, 234, 235, 236, 237, 238, 239, 240, 241, 242, 243, 244, 245, 246, 247, 248, 249, 250, 251, 252, 143, 144, 145, 146, 253, 254, 255, 256, 257, 180, 55, 181, 103, 104, 105, 106, 258, 259, 260, 261, 262, 263, 264, 265, 266, 267, 268, 269, 270, 271, 272, 273, 274, 275, 276, 277, 278, 279, 280, 281, 282, 283, 284, 285, 419, 420, 421, 422, 423, 426, 427, 428, 429, 430, 431, 432, 433, 434, 435, 436, 437, 438, 439, 440, 441, 442, 443, 444, 445, 446, 447, 448] (by decide +kernel) (by decide +kernel)) (goodIn_sub (fun _ h => List.mem_cons_of_mem _ (List.mem_append_left _ (List.mem_append_left _ (List.mem_append_right _ h)))) (by decide +kernel))) (goodIn_sub (fun _ h => List.mem_cons_of_mem _ (List.mem_append_right _ h)) (by decide +kernel))
set_option maxRecDepth 20000 in
theorem gL_refused_L_passing : GoodIn wsL_refused (va_wsS RL 134 yL_passing wsL_passing) := goodIn_app (goodIn_of _ (by decide +kernel)) ggL_refused_L_passing
set_option maxRecDepth 20000 in
theorem ggL_refused_L_all : GoodIn wsL_refused wsL_all := goodIn_ca (goodIn_r _ [292, 293, 294, 17, 18, 4, 19, 20, 21, 9, 22, 23, 24, 25, 26, 10, 27, 28, 29, 30, 31, 32, 33, 34, 35, 36, 37, 38, 39, 40, 41, 42, 43, 44, 45, 46, 47, 48, 49, 50, 51, 52, 53, 54, 55, 56, 419, 420, 421, 422, 423, 426, 427, 428, 429, 430, 431, 432, 433, 434, 435, 436, 437, 438, 439, 440, 441, 442, 443, 444, 445, 446, 447, 448] (by decide +kernel) (by decide +kernel)) (goodIn_sub (fun _ h => List.mem_cons_of_mem _ (List.mem_append_left _ (List.mem_append_left _ (List.mem_append_right _ h)))) (by decide +kernel))
set_option maxRecDepth 20000 in
theorem gL_refused_L_all : GoodIn wsL_refused (va_wsS RL 73 yL_all wsL_all) := goodIn_app (goodIn_of _ (by decide +kernel)) ggL_refused_L_all
set_option maxRecDepth 20000 in
theorem ggL_refused_L_sentWith : GoodIn wsL_refused wsL_sentWith := goodIn_ca (goodIn_r _ [400, 293, 401, 402, 403, 4, 404, 20, 21, 337, 338, 193, 9, 10, 27, 194, 195, 196, 31, 197, 115, 44, 147, 198, 199, 200, 201, 202, 34, 203, 43, 157, 33, 204, 205, 206, 49, 207, 52, 208, 209, 210, 101, 51, 102, 211, 212, 213, 214, 215, 216, 217, 218, 219, 220, 221, 222, 223, 224, 225, 226, 227, 45, 228, 229, 230, 231, 156, 232, 153, 154, 155, 158, 139, 140, 141, 116, 78, 159, 160, 161, 162, 163, 164, 165, 166, 167, 98, 99, 100, 168, 75, 76, 77, 169, 112, 113, 114, 170, 29, 30, 32, 35, 36, 37, 38, 233, 234, 235, 236, 237, 238, 239, 240, 241, 242, 243, 244, 245, 246, 247, 248, 249, 250, 251, 252, 143, 144, 145, 146, 253, 254, 255, 256, 257, 180, 55, 181, 103, 104, 105, 106, 258, 259, 260, 261, 262, 263, 264, 265, 266, 267, 268, 269, 270, 271, 272, 273, 274, 275, 276, 277, 278, 279, 280, 281, 282, 283, 284, 285, 419, 420, 421, 422, 423, 426, 427, 428, 429, 430, 431, 432, 433, 434, 435, 436, 437, 438, 439, 440, 441, 442, 443, 444, 445, 446, 447, 448] (by decide +kernel) (by decide +kernel)) (goodIn_sub (fun _ h => List.mem_cons_of_mem _ (List.mem_append_left _ (List.mem_append_left _ (List.mem_append_right _ h)))) (by decide +kernel))
set_option maxRecDepth 20000 in
theorem gL_refused_L_sentWith : GoodIn wsL_refused (va_wsS RL 137 yL_sentWith wsL_sentWith) := goodIn_app (goodIn_of _ (by decide +kernel)) ggL_refused_L_sentWith
set_option maxRecDepth 20000 in
theorem ggL_refused_L_typing : GoodIn wsL_refused wsL_typing := goodIn_ca (goodIn_ca (goodIn_r _ [407, 293, 299, 408, 409, 410, 4, 411, 20, 21, 304, 305, 7, 8, 412, 413, 414, 415, 416, 417, 418, 419, 420, 421, 422, 423, 424, 425] (by decide +kernel) (by decide +kernel)) (goodIn_sub (fun _ h => List.mem_cons_of_mem _ (List.mem_append_left _ (List.mem_append_left _ (List.mem_append_right _ h)))) (by decide +kernel))) (goodIn_sub (fun _ h => List.mem_cons_of_mem _ (List.mem_append_right _ h)) (by decide +kernel))
set_option maxRecDepth 20000 in
theorem gL_refused_L_typing : GoodIn wsL_refused (va_wsS RL 140 yL_typing wsL_typing) := goodIn_app (goodIn_of _ (by decide +kernel)) ggL_refused_L_typing
theorem dL_refused_0 : decode cL_refused 0 = .ok (.aload_n 0, 1) := by decide +kernel
theorem dL_refused_1 : decode cL_refused 1 = .ok (.invokevirtual 108, 3) := by decide +kernel
theorem dL_refused_4 : decode cL_refused 4 = .ok (.lstore_n 1, 1) := by decide +kernel
theorem dL_refused_5 : decode cL_refused 5 = .ok (.aload_n 0, 1) := by decide +kernel
theorem dL_refused_6 : decode cL_refused 6 = .ok (.invokestatic 130, 3) := by decide +kernel
theorem dL_refused_9 : decode cL_refused 9 = .ok (.ifCond .ne 5, 3) := by decide +kernel
theorem dL_refused_12 : decode cL_refused 12 = .ok (.iconst 0, 1) := by decide +kernel
theorem dL_refused_13 : decode cL_refused 13 = .ok (.ireturn, 1) := by decide +kernel
theorem dL_refused_14 : decode cL_refused 14 = .ok (.iconst 0, 1) := by decide +kernel
theorem dL_refused_15 : decode cL_refused 15 = .ok (.istore_n 3, 1) := by decide +kernel
theorem dL_refused_16 : decode cL_refused 16 = .ok (.iload_n 3, 1) := by decide +kernel
theorem dL_refused_17 : decode cL_refused 17 = .ok (.iconst 2, 1) := by decide +kernel
theorem dL_refused_18 : decode cL_refused 18 = .ok (.if_icmp .ge 200, 3) := by decide +kernel
theorem dL_refused_21 : decode cL_refused 21 = .ok (.aload_n 0, 1) := by decide +kernel
theorem dL_refused_22 : decode cL_refused 22 = .ok (.iconst 0, 1) := by decide +kernel
theorem dL_refused_23 : decode cL_refused 23 = .ok (.iload_n 3, 1) := by decide +kernel
theorem dL_refused_24 : decode cL_refused 24 = .ok (.ifCond .ne 8, 3) := by decide +kernel
theorem dL_refused_27 : decode cL_refused 27 = .ok (.bipush 21, 2) := by decide +kernel
theorem dL_refused_29 : decode cL_refused 29 = .ok (.goto 4, 3) := by decide +kernel
theorem dL_refused_32 : decode cL_refused 32 = .ok (.iconst (-1), 1) := by decide +kernel
theorem dL_refused_33 : decode cL_refused 33 = .ok (.invokestatic 118, 3) := by decide +kernel
theorem dL_refused_36 : decode cL_refused 36 = .ok (.sipush (-3002), 3) := by decide +kernel
theorem dL_refused_39 : decode cL_refused 39 = .ok (.if_icmp .ne 171, 3) := by decide +kernel
theorem dL_refused_42 : decode cL_refused 42 = .ok (.aload_n 0, 1) := by decide +kernel
theorem dL_refused_43 : decode cL_refused 43 = .ok (.iconst 1, 1) := by decide +kernel
theorem dL_refused_44 : decode cL_refused 44 = .ok (.iload_n 3, 1) := by decide +kernel
theorem dL_refused_45 : decode cL_refused 45 = .ok (.ifCond .ne 8, 3) := by decide +kernel
theorem dL_refused_48 : decode cL_refused 48 = .ok (.bipush 51, 2) := by decide +kernel
theorem dL_refused_50 : decode cL_refused 50 = .ok (.goto 4, 3) := by decide +kernel
theorem dL_refused_53 : decode cL_refused 53 = .ok (.iconst 0, 1) := by decide +kernel
theorem dL_refused_54 : decode cL_refused 54 = .ok (.invokestatic 118, 3) := by decide +kernel
theorem dL_refused_57 : decode cL_refused 57 = .ok (.sipush (-3002), 3) := by decide +kernel
theorem dL_refused_60 : decode cL_refused 60 = .ok (.if_icmp .ne 150, 3) := by decide +kernel
theorem dL_refused_63 : decode cL_refused 63 = .ok (.aload_n 0, 1) := by decide +kernel
theorem dL_refused_64 : decode cL_refused 64 = .ok (.iconst 2, 1) := by decide +kernel
theorem dL_refused_65 : decode cL_refused 65 = .ok (.iload_n 3, 1) := by decide +kernel
theorem dL_refused_66 : decode cL_refused 66 = .ok (.ifCond .ne 9, 3) := by decide +kernel
theorem dL_refused_69 : decode cL_refused 69 = .ok (.sipush 501, 3) := by decide +kernel
theorem dL_refused_72 : decode cL_refused 72 = .ok (.goto 4, 3) := by decide +kernel
theorem dL_refused_75 : decode cL_refused 75 = .ok (.iconst (-1), 1) := by decide +kernel
theorem dL_refused_76 : decode cL_refused 76 = .ok (.invokestatic 118, 3) := by decide +kernel
theorem dL_refused_79 : decode cL_refused 79 = .ok (.sipush (-3002), 3) := by decide +kernel
theorem dL_refused_82 : decode cL_refused 82 = .ok (.if_icmp .ne 128, 3) := by decide +kernel
theorem dL_refused_85 : decode cL_refused 85 = .ok (.aload_n 0, 1) := by decide +kernel
theorem dL_refused_86 : decode cL_refused 86 = .ok (.iconst 3, 1) := by decide +kernel
theorem dL_refused_87 : decode cL_refused 87 = .ok (.iload_n 3, 1) := by decide +kernel
theorem dL_refused_88 : decode cL_refused 88 = .ok (.ifCond .ne 8, 3) := by decide +kernel
theorem dL_refused_91 : decode cL_refused 91 = .ok (.bipush 41, 2) := by decide +kernel
theorem dL_refused_93 : decode cL_refused 93 = .ok (.goto 4, 3) := by decide +kernel
theorem dL_refused_96 : decode cL_refused 96 = .ok (.iconst (-1), 1) := by decide +kernel
theorem dL_refused_97 : decode cL_refused 97 = .ok (.invokestatic 118, 3) := by decide +kernel
theorem dL_refused_100 : decode cL_refused 100 = .ok (.sipush (-3002), 3) := by decide +kernel
theorem dL_refused_103 : decode cL_refused 103 = .ok (.if_icmp .ne 107, 3) := by decide +kernel
theorem dL_refused_106 : decode cL_refused 106 = .ok (.aload_n 0, 1) := by decide +kernel
theorem dL_refused_107 : decode cL_refused 107 = .ok (.iconst 0, 1) := by decide +kernel
theorem dL_refused_108 : decode cL_refused 108 = .ok (.iload_n 3, 1) := by decide +kernel
theorem dL_refused_109 : decode cL_refused 109 = .ok (.ifCond .ne 8, 3) := by decide +kernel
theorem dL_refused_112 : decode cL_refused 112 = .ok (.bipush 10, 2) := by decide +kernel
theorem dL_refused_114 : decode cL_refused 114 = .ok (.goto 4, 3) := by decide +kernel
theorem dL_refused_117 : decode cL_refused 117 = .ok (.iconst (-1), 1) := by decide +kernel
theorem dL_refused_118 : decode cL_refused 118 = .ok (.invokestatic 121, 3) := by decide +kernel
theorem dL_refused_121 : decode cL_refused 121 = .ok (.sipush (-3002), 3) := by decide +kernel
theorem dL_refused_124 : decode cL_refused 124 = .ok (.if_icmp .ne 86, 3) := by decide +kernel
theorem dL_refused_127 : decode cL_refused 127 = .ok (.aload_n 0, 1) := by decide +kernel
theorem dL_refused_128 : decode cL_refused 128 = .ok (.iload_n 3, 1) := by decide +kernel
theorem dL_refused_129 : decode cL_refused 129 = .ok (.ifCond .ne 9, 3) := by decide +kernel
theorem dL_refused_132 : decode cL_refused 132 = .ok (.sipush 501, 3) := by decide +kernel
theorem dL_refused_135 : decode cL_refused 135 = .ok (.goto 4, 3) := by decide +kernel
theorem dL_refused_138 : decode cL_refused 138 = .ok (.iconst 0, 1) := by decide +kernel
theorem dL_refused_139 : decode cL_refused 139 = .ok (.invokestatic 134, 3) := by decide +kernel
theorem dL_refused_142 : decode cL_refused 142 = .ok (.sipush (-3002), 3) := by decide +kernel
theorem dL_refused_145 : decode cL_refused 145 = .ok (.if_icmp .ne 65, 3) := by decide +kernel
theorem dL_refused_148 : decode cL_refused 148 = .ok (.aload_n 0, 1) := by decide +kernel
theorem dL_refused_149 : decode cL_refused 149 = .ok (.iload_n 3, 1) := by decide +kernel
theorem dL_refused_150 : decode cL_refused 150 = .ok (.ifCond .ne 8, 3) := by decide +kernel
theorem dL_refused_153 : decode cL_refused 153 = .ok (.bipush 12, 2) := by decide +kernel
theorem dL_refused_155 : decode cL_refused 155 = .ok (.goto 4, 3) := by decide +kernel
theorem dL_refused_158 : decode cL_refused 158 = .ok (.iconst (-1), 1) := by decide +kernel
theorem dL_refused_159 : decode cL_refused 159 = .ok (.invokestatic 73, 3) := by decide +kernel
theorem dL_refused_162 : decode cL_refused 162 = .ok (.sipush (-3002), 3) := by decide +kernel
theorem dL_refused_165 : decode cL_refused 165 = .ok (.if_icmp .ne 45, 3) := by decide +kernel
theorem dL_refused_168 : decode cL_refused 168 = .ok (.aload_n 0, 1) := by decide +kernel
theorem dL_refused_169 : decode cL_refused 169 = .ok (.iload_n 3, 1) := by decide +kernel
theorem dL_refused_170 : decode cL_refused 170 = .ok (.ifCond .ne 9, 3) := by decide +kernel
theorem dL_refused_173 : decode cL_refused 173 = .ok (.sipush 501, 3) := by decide +kernel
theorem dL_refused_176 : decode cL_refused 176 = .ok (.goto 4, 3) := by decide +kernel
theorem dL_refused_179 : decode cL_refused 179 = .ok (.iconst (-1), 1) := by decide +kernel
theorem dL_refused_180 : decode cL_refused 180 = .ok (.invokestatic 137, 3) := by decide +kernel
theorem dL_refused_183 : decode cL_refused 183 = .ok (.sipush (-3002), 3) := by decide +kernel
theorem dL_refused_186 : decode cL_refused 186 = .ok (.if_icmp .ne 24, 3) := by decide +kernel
theorem dL_refused_189 : decode cL_refused 189 = .ok (.aload_n 0, 1) := by decide +kernel
theorem dL_refused_190 : decode cL_refused 190 = .ok (.iload_n 3, 1) := by decide +kernel
theorem dL_refused_191 : decode cL_refused 191 = .ok (.ifCond .ne 9, 3) := by decide +kernel
theorem dL_refused_194 : decode cL_refused 194 = .ok (.sipush 128, 3) := by decide +kernel
theorem dL_refused_197 : decode cL_refused 197 = .ok (.goto 4, 3) := by decide +kernel
theorem dL_refused_200 : decode cL_refused 200 = .ok (.iconst (-1), 1) := by decide +kernel
theorem dL_refused_201 : decode cL_refused 201 = .ok (.invokestatic 140, 3) := by decide +kernel
theorem dL_refused_204 : decode cL_refused 204 = .ok (.sipush (-3002), 3) := by decide +kernel
theorem dL_refused_207 : decode cL_refused 207 = .ok (.if_icmp .eq 5, 3) := by decide +kernel
theorem dL_refused_210 : decode cL_refused 210 = .ok (.iconst 0, 1) := by decide +kernel
theorem dL_refused_211 : decode cL_refused 211 = .ok (.ireturn, 1) := by decide +kernel
theorem dL_refused_212 : decode cL_refused 212 = .ok (.iinc 3 1, 3) := by decide +kernel
theorem dL_refused_215 : decode cL_refused 215 = .ok (.goto (-199), 3) := by decide +kernel
theorem dL_refused_218 : decode cL_refused 218 = .ok (.aload_n 0, 1) := by decide +kernel
theorem dL_refused_219 : decode cL_refused 219 = .ok (.invokevirtual 108, 3) := by decide +kernel
theorem dL_refused_222 : decode cL_refused 222 = .ok (.lload_n 1, 1) := by decide +kernel
theorem dL_refused_223 : decode cL_refused 223 = .ok (.lcmp, 1) := by decide +kernel
theorem dL_refused_224 : decode cL_refused 224 = .ok (.ifCond .ne 7, 3) := by decide +kernel
theorem dL_refused_227 : decode cL_refused 227 = .ok (.iconst 1, 1) := by decide +kernel
theorem dL_refused_228 : decode cL_refused 228 = .ok (.goto 4, 3) := by decide +kernel
theorem dL_refused_231 : decode cL_refused 231 = .ok (.iconst 0, 1) := by decide +kernel
theorem dL_refused_232 : decode cL_refused 232 = .ok (.ireturn, 1) := by decide +kernel
