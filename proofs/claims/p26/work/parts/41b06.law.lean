set_option maxRecDepth 20000 in
theorem ggL_types_L_typing : GoodIn wsL_types wsL_typing := goodIn_ca (goodIn_ca (goodIn_r _ [5, 6, 7, 8, 9, 10, 11, 12, 13, 14, 15, 16, 17, 18, 19, 20, 21, 22, 23, 24, 25, 26, 27, 28, 29, 30, 31, 32] (by decide +kernel) (by decide +kernel)) (goodIn_sub (fun _ h => List.mem_cons_of_mem _ (List.mem_append_left _ (List.mem_append_right _ h))) (by decide +kernel))) (goodIn_sub (fun _ h => List.mem_cons_of_mem _ (List.mem_append_right _ h)) (by decide +kernel))
set_option maxRecDepth 20000 in
theorem gL_types_L_typing : GoodIn wsL_types (va_wsS RL 140 yL_typing wsL_typing) := goodIn_app (goodIn_of _ (by decide +kernel)) ggL_types_L_typing
theorem dL_types_0 : decode cL_types 0 = .ok (.bipush 7, 2) := by decide +kernel
theorem dL_types_2 : decode cL_types 2 = .ok (.istore_n 3, 1) := by decide +kernel
theorem dL_types_3 : decode cL_types 3 = .ok (.iload_n 3, 1) := by decide +kernel
theorem dL_types_4 : decode cL_types 4 = .ok (.ifCond .lt 37, 3) := by decide +kernel
theorem dL_types_7 : decode cL_types 7 = .ok (.lload_n 1, 1) := by decide +kernel
theorem dL_types_8 : decode cL_types 8 = .ok (.bipush 8, 2) := by decide +kernel
theorem dL_types_10 : decode cL_types 10 = .ok (.iload_n 3, 1) := by decide +kernel
theorem dL_types_11 : decode cL_types 11 = .ok (.imul, 1) := by decide +kernel
theorem dL_types_12 : decode cL_types 12 = .ok (.lshr, 1) := by decide +kernel
theorem dL_types_13 : decode cL_types 13 = .ok (.ldc2_w 143, 3) := by decide +kernel
theorem dL_types_16 : decode cL_types 16 = .ok (.land, 1) := by decide +kernel
theorem dL_types_17 : decode cL_types 17 = .ok (.l2i, 1) := by decide +kernel
theorem dL_types_18 : decode cL_types 18 = .ok (.istore 4, 2) := by decide +kernel
theorem dL_types_20 : decode cL_types 20 = .ok (.iload 4, 2) := by decide +kernel
theorem dL_types_22 : decode cL_types 22 = .ok (.ifCond .eq 13, 3) := by decide +kernel
theorem dL_types_25 : decode cL_types 25 = .ok (.aload_n 0, 1) := by decide +kernel
theorem dL_types_26 : decode cL_types 26 = .ok (.iload 4, 2) := by decide +kernel
theorem dL_types_28 : decode cL_types 28 = .ok (.invokestatic 140, 3) := by decide +kernel
theorem dL_types_31 : decode cL_types 31 = .ok (.ifCond .ge 4, 3) := by decide +kernel
theorem dL_types_34 : decode cL_types 34 = .ok (.return_, 1) := by decide +kernel
theorem dL_types_35 : decode cL_types 35 = .ok (.iinc 3 (-1), 3) := by decide +kernel
theorem dL_types_38 : decode cL_types 38 = .ok (.goto (-35), 3) := by decide +kernel
theorem dL_types_41 : decode cL_types 41 = .ok (.return_, 1) := by decide +kernel
set_option maxRecDepth 20000 in
theorem ggL_told_X4_init : GoodIn wsL_told wsX4_init := goodIn_r _ [6, 7, 8, 9, 10, 11, 12, 13, 14, 15, 16, 17, 18, 19, 20, 21, 22, 23, 24, 25, 26, 27, 28, 29, 30, 31, 32, 33, 34, 35, 36, 37, 38, 39, 40, 41, 42, 43, 44, 45, 46, 47, 48, 49, 50, 51, 52, 53, 54, 55, 56, 57, 58, 59, 60, 61, 62, 63, 64, 65, 66, 67, 68, 69, 70, 71, 72, 73, 3, 74, 75, 76, 77, 78, 79, 80, 81, 82, 83, 84, 85, 86, 87, 88, 89, 90, 91, 92, 93, 94, 95, 96, 97, 98, 99, 100, 101, 102, 103, 104, 105, 106, 107, 108, 109, 110, 111, 112, 113, 114, 115, 116, 117, 118, 119, 120, 121, 122, 123, 124, 125, 126, 127, 128, 129, 130, 131, 132, 133, 134, 135, 136, 137, 138, 139, 140, 141, 142, 143, 144, 447, 448, 449, 450, 451, 452, 453, 454, 455, 442, 443, 444, 445, 446, 456, 457, 458, 459, 460, 461, 462, 463, 464, 465, 466, 467, 468, 469, 470, 471] (by decide +kernel) (by decide +kernel)
set_option maxRecDepth 20000 in
theorem gL_told_X4_init : GoodIn wsL_told (wsX4_init) := ggL_told_X4_init
set_option maxRecDepth 20000 in
theorem ggL_told_L_types : GoodIn wsL_told wsL_types := goodIn_ca (goodIn_ca (goodIn_r _ [148, 149, 150, 151, 147, 152, 153, 154, 155, 156, 157, 3, 158, 159, 160, 161, 162, 20, 163, 124, 125, 126, 19, 127, 71, 70, 442, 443, 444, 445, 446, 456, 457] (by decide +kernel) (by decide +kernel)) (goodIn_sub (fun _ h => List.mem_cons_of_mem _ (List.mem_append_left _ (List.mem_append_left _ (List.mem_append_right _ h)))) (by decide +kernel))) (goodIn_sub (fun _ h => List.mem_cons_of_mem _ (List.mem_append_left _ (List.mem_append_right _ h))) (by decide +kernel))
set_option maxRecDepth 20000 in
theorem gL_told_L_types : GoodIn wsL_told (va_wsS RL 146 yL_types wsL_types) := goodIn_app (goodIn_of _ (by decide +kernel)) ggL_told_L_types
set_option maxRecDepth 20000 in
theorem ggp4_0 : GoodIn wsL_told wsX4_digest_r1 := goodIn_r _ [168, 20, 163, 13, 169, 16, 170, 171, 3, 172, 173, 174, 175, 176, 177, 159, 160, 178, 179, 180, 181, 182, 183, 184] (by decide +kernel) (by decide +kernel)
set_option maxRecDepth 20000 in
theorem ggp4_1 : GoodIn wsL_told wsX4_digest_r2 := goodIn_r _ [185, 186, 12, 187, 44, 40, 188, 189, 190, 191, 192, 193, 194, 195, 42, 30, 196, 197, 198, 199, 27, 200, 54, 50] (by decide +kernel) (by decide +kernel)
set_option maxRecDepth 20000 in
theorem ggp4_2 : GoodIn wsL_told wsX4_digest_r3 := goodIn_r _ [201, 202, 203, 204, 205, 206, 207, 208, 209, 210, 211, 212, 213, 214, 215, 216, 217, 218, 219, 220, 221, 222, 223, 224] (by decide +kernel) (by decide +kernel)
set_option maxRecDepth 20000 in
theorem ggp4_3 : GoodIn wsL_told wsX4_digest_r4 := goodIn_r _ [225, 226, 227, 228, 229, 230, 231, 232, 233, 234, 235, 236, 237, 238, 239, 240, 241, 242, 243, 244, 245, 246, 247, 248] (by decide +kernel) (by decide +kernel)
set_option maxRecDepth 20000 in
theorem ggp4_4 : GoodIn wsL_told wsX4_digest_r5 := goodIn_r _ [53, 55, 249, 250, 251, 252, 253, 254, 255, 256, 257, 258, 259, 260, 28, 261, 262, 263, 264, 265, 266, 267, 268, 269] (by decide +kernel) (by decide +kernel)
set_option maxRecDepth 20000 in
theorem ggp4_5 : GoodIn wsL_told wsX4_digest_r6 := goodIn_r _ [270, 271, 272, 273, 274, 275, 276, 277, 278, 279, 280, 281, 282, 283, 284, 285, 286, 287, 288, 289, 290, 291, 37, 292] (by decide +kernel) (by decide +kernel)
set_option maxRecDepth 20000 in
theorem ggp4_6 : GoodIn wsL_told wsX4_digest_r7 := goodIn_r _ [293, 294, 295, 296, 297, 298, 299, 300, 43, 301, 302, 303, 304, 305, 306, 307, 308, 309, 310, 311, 312, 313, 314, 315] (by decide +kernel) (by decide +kernel)
set_option maxRecDepth 20000 in
theorem ggp4_7 : GoodIn wsL_told wsX4_digest_r8 := goodIn_r _ [316, 317, 318, 319, 320, 321, 322, 323, 324, 325, 326, 327, 328, 329, 330, 331, 332, 333, 334, 335, 14, 336, 337, 338] (by decide +kernel) (by decide +kernel)
set_option maxRecDepth 20000 in
theorem ggp4_8 : GoodIn wsL_told wsX4_digest_r9 := goodIn_r _ [339, 340, 341, 342, 343, 39, 41, 344, 345, 346, 347, 348, 51, 52, 349, 350, 351, 46, 352, 59, 60, 61, 62, 63] (by decide +kernel) (by decide +kernel)
set_option maxRecDepth 20000 in
theorem ggp4_9 : GoodIn wsL_told wsX4_digest_r10 := goodIn_r _ [64, 65, 66, 353, 354, 355, 356, 357, 358, 359, 360, 361, 362, 363, 364, 365, 366, 367, 368, 369, 370, 371, 372, 373] (by decide +kernel) (by decide +kernel)
set_option maxRecDepth 20000 in
theorem ggp4_10 : GoodIn wsL_told wsX4_digest_r11 := goodIn_r _ [374, 375, 376, 377, 378, 379, 380, 381, 382, 383, 384, 385, 386, 387, 388, 389, 390, 391, 392, 393, 394, 395, 396, 397] (by decide +kernel) (by decide +kernel)
set_option maxRecDepth 20000 in
theorem ggp4_11 : GoodIn wsL_told wsX4_digest_r12 := goodIn_r _ [398, 399, 400, 401, 402, 403, 404, 405, 406, 407, 408, 409, 410, 411, 412, 413, 414] (by decide +kernel) (by decide +kernel)
set_option maxRecDepth 20000 in
theorem ggp4_12 : GoodIn wsL_told wsX40 := goodIn_r _ [442, 443, 444, 445, 446] (by decide +kernel) (by decide +kernel)
set_option maxRecDepth 20000 in
theorem ggp4_13 : GoodIn wsL_told wsX20 := goodIn_r _ [456, 457] (by decide +kernel) (by decide +kernel)
set_option maxRecDepth 20000 in
theorem ggp4_14 : GoodIn wsL_told wsX00 := goodIn_r _ [447, 448, 449, 450, 451, 452, 453, 454, 455] (by decide +kernel) (by decide +kernel)
set_option maxRecDepth 20000 in
theorem ggp4_15 : GoodIn wsL_told wsX10 := goodIn_r _ [458, 459, 460, 461, 462, 463] (by decide +kernel) (by decide +kernel)
set_option maxRecDepth 20000 in
theorem ggp4_16 : GoodIn wsL_told wsX30 := goodIn_r _ [464, 465, 466, 467, 468, 469, 470, 471] (by decide +kernel) (by decide +kernel)
set_option maxRecDepth 100000 in
theorem ggL_told_X4_digest : GoodIn wsL_told wsX4_digest := goodIn_ca (goodIn_ca (gc_big (List.mem_of_getElem? (i := 167) rfl) (goodIn_app (goodIn_app (goodIn_app (goodIn_app (goodIn_app (goodIn_app ggp4_0 (goodIn_app ggp4_1 (goodIn_app ggp4_2 (goodIn_app ggp4_3 (goodIn_app ggp4_4 (goodIn_app ggp4_5 (goodIn_app ggp4_6 (goodIn_app ggp4_7 (goodIn_app ggp4_8 (goodIn_app ggp4_9 (goodIn_app ggp4_10 ggp4_11))))))))))) ggp4_12) ggp4_13) ggp4_14) ggp4_15) ggp4_16)) (goodIn_sub (fun _ h => List.mem_cons_of_mem _ (List.mem_append_left _ (List.mem_append_left _ (List.mem_append_right _ h)))) (by decide +kernel))) (goodIn_sub (fun _ h => List.mem_cons_of_mem _ (List.mem_append_right _ h)) (by decide +kernel))
set_option maxRecDepth 20000 in
theorem gL_told_X4_digest : GoodIn wsL_told (wsV RL 108 RX4 yX4_digest wsX4_digest) := goodIn_app (goodIn_of _ (by decide +kernel)) ggL_told_X4_digest
set_option maxRecDepth 20000 in
theorem ggL_told_X4_parse : GoodIn wsL_told wsX4_parse := goodIn_r _ [418, 20, 13, 178, 179, 419, 420, 421, 19, 422, 71, 70, 423, 424, 425, 426, 427, 428, 429, 430, 431, 432, 433, 3, 434, 16, 15, 336, 337, 338, 12, 339, 28, 30, 37, 340, 341, 342, 343, 39, 40, 41, 42, 43, 44, 344, 345, 346, 27, 347, 50, 348, 51, 52, 53, 54, 55, 349, 350, 351, 46, 352, 59, 60, 61, 62, 63, 64, 65, 66, 128, 129, 130, 131, 132, 133, 134, 135, 136, 137, 138, 139, 140, 141, 142, 143, 144, 442, 443, 444, 445, 446, 447, 448, 449, 450, 451, 452, 453, 454, 455, 458, 459, 460, 461, 462, 463, 456, 457, 464, 465, 466, 467, 468, 469, 470, 471] (by decide +kernel) (by decide +kernel)
set_option maxRecDepth 20000 in
theorem gL_told_X4_parse : GoodIn wsL_told (wsV RL 150 RX4 yX4_parse wsX4_parse) := goodIn_app (goodIn_of _ (by decide +kernel)) ggL_told_X4_parse
set_option maxRecDepth 20000 in
theorem ggL_told_L_undoing : GoodIn wsL_told wsL_undoing := goodIn_ca (goodIn_r _ [437, 154, 438, 439, 440, 3, 441, 161, 162, 16, 13, 15, 336, 337, 338, 12, 339, 28, 30, 37, 340, 341, 342, 343, 39, 40, 41, 42, 43, 44, 344, 345, 346, 27, 347, 50, 348, 51, 52, 53, 54, 55, 349, 350, 351, 46, 352, 59, 60, 61, 62, 63, 64, 65, 66, 442, 443, 444, 445, 446, 447, 448, 449, 450, 451, 452, 453, 454, 455, 458, 459, 460, 461, 462, 463, 464, 465, 466, 467, 468, 469, 470, 471] (by decide +kernel) (by decide +kernel)) (goodIn_sub (fun _ h => List.mem_cons_of_mem _ (List.mem_append_left _ (List.mem_append_right _ h))) (by decide +kernel))
set_option maxRecDepth 20000 in
theorem gL_told_L_undoing : GoodIn wsL_told (va_wsS RL 153 yL_undoing wsL_undoing) := goodIn_app (goodIn_of _ (by decide +kernel)) ggL_told_L_undoing
theorem dL_told_0 : decode cL_told 0 = .ok (.new 10, 3) := by decide +kernel
theorem dL_told_3 : decode cL_told 3 = .ok (.dup, 1) := by decide +kernel
theorem dL_told_4 : decode cL_told 4 = .ok (.invokespecial 145, 3) := by decide +kernel
theorem dL_told_7 : decode cL_told 7 = .ok (.astore 6, 2) := by decide +kernel
theorem dL_told_9 : decode cL_told 9 = .ok (.aload 6, 2) := by decide +kernel
theorem dL_told_11 : decode cL_told 11 = .ok (.lload_n 0, 1) := by decide +kernel
theorem dL_told_12 : decode cL_told 12 = .ok (.invokestatic 146, 3) := by decide +kernel
theorem dL_told_15 : decode cL_told 15 = .ok (.aload 6, 2) := by decide +kernel
theorem dL_told_17 : decode cL_told 17 = .ok (.lload_n 2, 1) := by decide +kernel
theorem dL_told_18 : decode cL_told 18 = .ok (.invokestatic 146, 3) := by decide +kernel
theorem dL_told_21 : decode cL_told 21 = .ok (.aload 6, 2) := by decide +kernel
theorem dL_told_23 : decode cL_told 23 = .ok (.lload 4, 2) := by decide +kernel
theorem dL_told_25 : decode cL_told 25 = .ok (.invokestatic 146, 3) := by decide +kernel
theorem dL_told_28 : decode cL_told 28 = .ok (.aload 6, 2) := by decide +kernel
theorem dL_told_30 : decode cL_told 30 = .ok (.invokevirtual 108, 3) := by decide +kernel
theorem dL_told_33 : decode cL_told 33 = .ok (.lstore 7, 2) := by decide +kernel
theorem dL_told_35 : decode cL_told 35 = .ok (.aload 6, 2) := by decide +kernel
theorem dL_told_37 : decode cL_told 37 = .ok (.invokevirtual 150, 3) := by decide +kernel
theorem dL_told_40 : decode cL_told 40 = .ok (.istore 9, 2) := by decide +kernel
theorem dL_told_42 : decode cL_told 42 = .ok (.iload 9, 2) := by decide +kernel
theorem dL_told_44 : decode cL_told 44 = .ok (.ifCond .ge 34, 3) := by decide +kernel
theorem dL_told_47 : decode cL_told 47 = .ok (.aload 6, 2) := by decide +kernel
theorem dL_told_49 : decode cL_told 49 = .ok (.invokevirtual 108, 3) := by decide +kernel
theorem dL_told_52 : decode cL_told 52 = .ok (.lload 7, 2) := by decide +kernel
theorem dL_told_54 : decode cL_told 54 = .ok (.lcmp, 1) := by decide +kernel
theorem dL_told_55 : decode cL_told 55 = .ok (.ifCond .ne 19, 3) := by decide +kernel
theorem dL_told_58 : decode cL_told 58 = .ok (.aload 6, 2) := by decide +kernel
theorem dL_told_60 : decode cL_told 60 = .ok (.invokestatic 153, 3) := by decide +kernel
theorem dL_told_63 : decode cL_told 63 = .ok (.sipush (-3003), 3) := by decide +kernel
theorem dL_told_66 : decode cL_told 66 = .ok (.if_icmp .ne 8, 3) := by decide +kernel
theorem dL_told_69 : decode cL_told 69 = .ok (.iload 9, 2) := by decide +kernel
theorem dL_told_71 : decode cL_told 71 = .ok (.goto 6, 3) := by decide +kernel
theorem dL_told_74 : decode cL_told 74 = .ok (.sipush (-5000), 3) := by decide +kernel
theorem dL_told_77 : decode cL_told 77 = .ok (.ireturn, 1) := by decide +kernel
theorem dL_told_78 : decode cL_told 78 = .ok (.aload 6, 2) := by decide +kernel
theorem dL_told_80 : decode cL_told 80 = .ok (.invokestatic 153, 3) := by decide +kernel
theorem dL_told_83 : decode cL_told 83 = .ok (.ifCond .ne 19, 3) := by decide +kernel
theorem dL_told_86 : decode cL_told 86 = .ok (.aload 6, 2) := by decide +kernel
theorem dL_told_88 : decode cL_told 88 = .ok (.invokevirtual 108, 3) := by decide +kernel
theorem dL_told_91 : decode cL_told 91 = .ok (.lload 7, 2) := by decide +kernel
theorem dL_told_93 : decode cL_told 93 = .ok (.lcmp, 1) := by decide +kernel
theorem dL_told_94 : decode cL_told 94 = .ok (.ifCond .ne 8, 3) := by decide +kernel
theorem dL_told_97 : decode cL_told 97 = .ok (.iload 9, 2) := by decide +kernel
theorem dL_told_99 : decode cL_told 99 = .ok (.goto 6, 3) := by decide +kernel
theorem dL_told_102 : decode cL_told 102 = .ok (.sipush (-5001), 3) := by decide +kernel
theorem dL_told_105 : decode cL_told 105 = .ok (.ireturn, 1) := by decide +kernel
set_option maxRecDepth 20000 in
theorem ggp5_0 : GoodIn wsL_texts wsL_told_r1 := goodIn_r _ [17, 18, 19, 25, 26, 27, 28, 29, 30, 31, 32, 33, 34, 35, 36, 37, 38, 39, 40, 41, 42, 43, 44, 45] (by decide +kernel) (by decide +kernel)
set_option maxRecDepth 20000 in
theorem ggp5_1 : GoodIn wsL_texts wsL_told_r2 := goodIn_r _ [46, 47, 48, 49, 50, 51, 52, 53, 54, 55, 56, 57, 58, 59, 60, 61, 62, 63, 64, 65, 66, 67, 68, 69] (by decide +kernel) (by decide +kernel)
set_option maxRecDepth 20000 in
theorem ggp5_2 : GoodIn wsL_texts wsL_told_r3 := goodIn_r _ [70, 71, 72, 73, 74, 75, 76, 77, 78, 79, 80, 81, 82, 83, 84, 85, 86, 87, 88, 89, 90, 91, 92, 93] (by decide +kernel) (by decide +kernel)
set_option maxRecDepth 20000 in
theorem ggp5_3 : GoodIn wsL_texts wsL_told_r4 := goodIn_r _ [94, 95, 96, 97, 98, 99, 100, 101, 102, 103, 104, 105, 106, 107, 108, 109, 110, 111, 112, 113, 114, 115, 116, 117] (by decide +kernel) (by decide +kernel)
set_option maxRecDepth 20000 in
theorem ggp5_4 : GoodIn wsL_texts wsL_told_r5 := goodIn_r _ [118, 119, 120, 121, 122, 123, 124, 125, 126, 127, 128, 129, 130, 131, 132, 133, 134, 135, 136, 137, 138, 139, 140, 141] (by decide +kernel) (by decide +kernel)
set_option maxRecDepth 20000 in
theorem ggp5_5 : GoodIn wsL_texts wsL_told_r6 := goodIn_r _ [142, 143, 144, 145, 146, 147, 148, 149, 150, 151, 152, 153, 154, 155, 156, 157, 158, 159, 160, 161, 162, 163, 164, 165] (by decide +kernel) (by decide +kernel)
set_option maxRecDepth 20000 in
theorem ggp5_6 : GoodIn wsL_texts wsL_told_r7 := goodIn_r _ [166, 167, 23, 168, 169, 170, 171, 172, 173, 174, 175, 176, 177, 178, 179, 180, 181, 182, 183, 184, 185, 186, 187, 188] (by decide +kernel) (by decide +kernel)
set_option maxRecDepth 20000 in
theorem ggp5_7 : GoodIn wsL_texts wsL_told_r8 := goodIn_r _ [189, 190, 191, 192, 193, 194, 195, 196, 197, 198, 199, 200, 201, 202, 203, 204, 205, 206, 207, 208, 209, 210, 211, 212] (by decide +kernel) (by decide +kernel)
set_option maxRecDepth 20000 in
theorem ggp5_8 : GoodIn wsL_texts wsL_told_r9 := goodIn_r _ [213, 214, 215, 216, 217, 218, 219, 220, 221, 222, 223, 224, 225, 226, 227, 228, 229, 230, 231, 232, 233, 234, 235, 236] (by decide +kernel) (by decide +kernel)
set_option maxRecDepth 20000 in
theorem ggp5_9 : GoodIn wsL_texts wsL_told_r10 := goodIn_r _ [237, 238, 239, 240, 241, 242, 243, 244, 245, 246, 247, 248, 249, 250, 251, 252, 253, 254, 255, 256, 257, 258, 259, 260] (by decide +kernel) (by decide +kernel)
set_option maxRecDepth 20000 in
theorem ggp5_10 : GoodIn wsL_texts wsL_told_r11 := goodIn_r _ [261, 262, 263, 264, 265, 266, 267, 268, 269, 270, 271, 272, 273, 274, 275, 276, 277, 278, 279, 280, 281, 282, 283, 284] (by decide +kernel) (by decide +kernel)
set_option maxRecDepth 20000 in
theorem ggp5_11 : GoodIn wsL_texts wsL_told_r12 := goodIn_r _ [285, 286, 287, 288, 289, 290, 291, 292, 293, 294, 295, 296, 297, 298, 299, 300, 301, 302, 303, 304, 305, 306, 307, 308] (by decide +kernel) (by decide +kernel)
set_option maxRecDepth 20000 in
theorem ggp5_12 : GoodIn wsL_texts wsL_told_r13 := goodIn_r _ [309, 310, 311, 312, 313, 314, 315, 316, 317, 318, 319, 320, 321, 322, 323, 324, 325, 326, 327, 328, 329, 330, 331, 332] (by decide +kernel) (by decide +kernel)
set_option maxRecDepth 20000 in
theorem ggp5_13 : GoodIn wsL_texts wsL_told_r14 := goodIn_r _ [333, 334, 335, 336, 337, 338, 339, 340, 341, 342, 343, 344, 345, 346, 347, 348, 349, 350, 351, 352, 353, 354, 355, 356] (by decide +kernel) (by decide +kernel)
set_option maxRecDepth 20000 in
theorem ggp5_14 : GoodIn wsL_texts wsL_told_r15 := goodIn_r _ [357, 358, 359, 360, 361, 362, 363, 364, 365, 366, 367, 368, 369, 370, 371, 372, 373, 374, 375, 376, 377, 378, 379, 380] (by decide +kernel) (by decide +kernel)
set_option maxRecDepth 20000 in
theorem ggp5_15 : GoodIn wsL_texts wsL_told_r16 := goodIn_r _ [381, 382, 383, 384, 385, 386, 387, 388, 389, 390, 391, 392, 393, 394, 395, 396, 397, 398, 399, 400, 401, 402, 403, 404] (by decide +kernel) (by decide +kernel)
set_option maxRecDepth 20000 in
theorem ggp5_16 : GoodIn wsL_texts wsL_told_r17 := goodIn_r _ [405, 406, 407, 408, 409, 410, 411, 412, 413, 414, 415, 416, 417, 418, 419, 420, 421, 422, 423, 424, 425, 426, 427, 428] (by decide +kernel) (by decide +kernel)
set_option maxRecDepth 20000 in
theorem ggp5_17 : GoodIn wsL_texts wsL_told_r18 := goodIn_r _ [429, 430, 431, 432, 433, 434, 435, 436, 437, 438, 439, 440, 441, 442, 443, 444, 445, 446, 447, 448, 449, 450, 451, 452] (by decide +kernel) (by decide +kernel)
set_option maxRecDepth 20000 in
theorem ggp5_18 : GoodIn wsL_texts wsL_told_r19 := goodIn_r _ [453, 454, 455, 456, 457, 458, 459, 460, 461] (by decide +kernel) (by decide +kernel)
set_option maxRecDepth 20000 in
theorem ggp5_19 : GoodIn wsL_texts wsX40 := goodIn_r _ [479, 480, 481, 482, 483] (by decide +kernel) (by decide +kernel)
set_option maxRecDepth 20000 in
theorem ggp5_20 : GoodIn wsL_texts wsX00 := goodIn_r _ [484, 485, 486, 487, 488, 489, 490, 491, 492] (by decide +kernel) (by decide +kernel)
set_option maxRecDepth 20000 in
theorem ggp5_21 : GoodIn wsL_texts wsX20 := goodIn_r _ [493, 494] (by decide +kernel) (by decide +kernel)
set_option maxRecDepth 20000 in
theorem ggp5_22 : GoodIn wsL_texts wsX10 := goodIn_r _ [495, 496, 497, 498, 499, 500] (by decide +kernel) (by decide +kernel)
set_option maxRecDepth 20000 in
theorem ggp5_23 : GoodIn wsL_texts wsX30 := goodIn_r _ [501, 502, 503, 504, 505, 506, 507, 508] (by decide +kernel) (by decide +kernel)
set_option maxRecDepth 100000 in
theorem ggL_texts_L_told : GoodIn wsL_texts wsL_told := goodIn_ca (goodIn_ca (goodIn_ca (gc_big (List.mem_of_getElem? (i := 24) rfl) (goodIn_app (goodIn_app (goodIn_app (goodIn_app (goodIn_app (goodIn_app ggp5_0 (goodIn_app ggp5_1 (goodIn_app ggp5_2 (goodIn_app ggp5_3 (goodIn_app ggp5_4 (goodIn_app ggp5_5 (goodIn_app ggp5_6 (goodIn_app ggp5_7 (goodIn_app ggp5_8 (goodIn_app ggp5_9 (goodIn_app ggp5_10 (goodIn_app ggp5_11 (goodIn_app ggp5_12 (goodIn_app ggp5_13 (goodIn_app ggp5_14 (goodIn_app ggp5_15 (goodIn_app ggp5_16 (goodIn_app ggp5_17 ggp5_18)))))))))))))))))) ggp5_19) ggp5_20) ggp5_21) ggp5_22) ggp5_23)) (goodIn_sub (fun _ h => List.mem_cons_of_mem _ (List.mem_append_left _ (List.mem_append_left _ (List.mem_append_right _ h)))) (by decide +kernel))) (goodIn_sub (fun _ h => List.mem_cons_of_mem _ (List.mem_append_left _ (List.mem_append_right _ h))) (by decide +kernel))) (goodIn_sub (fun _ h => List.mem_cons_of_mem _ (List.mem_append_right _ h)) (by decide +kernel))
set_option maxRecDepth 20000 in
theorem gL_texts_L_told : GoodIn wsL_texts (va_wsS RL 157 yL_told wsL_told) := goodIn_app (goodIn_of _ (by decide +kernel)) ggL_texts_L_told
set_option maxRecDepth 20000 in
theorem ggL_texts_X4_init : GoodIn wsL_texts wsX4_init := goodIn_r _ [27, 28, 29, 30, 31, 32, 33, 34, 35, 36, 37, 38, 39, 40, 41, 42, 43, 44, 45, 46, 47, 48, 49, 50, 51, 52, 53, 54, 55, 56, 57, 58, 59, 60, 61, 62, 63, 64, 65, 66, 67, 68, 69, 70, 71, 72, 73, 74, 75, 76, 77, 78, 79, 80, 81, 82, 83, 84, 85, 86, 87, 88, 89, 90, 91, 92, 93, 94, 19, 95, 96, 97, 98, 99, 100, 101, 102, 103, 104, 105, 106, 107, 108, 109, 110, 111, 112, 113, 114, 115, 116, 117, 118, 119, 120, 121, 122, 123, 124, 125, 126, 127, 128, 129, 130, 131, 132, 133, 134, 135, 136, 137, 138, 139, 140, 141, 142, 143, 144, 145, 146, 147, 148, 149, 150, 151, 152, 153, 154, 155, 156, 157, 158, 159, 160, 161, 162, 163, 164, 165, 484, 485, 486, 487, 488, 489, 490, 491, 492, 479, 480, 481, 482, 483, 493, 494, 495, 496, 497, 498, 499, 500, 501, 502, 503, 504, 505, 506, 507, 508] (by decide +kernel) (by decide +kernel)
set_option maxRecDepth 20000 in
theorem gL_texts_X4_init : GoodIn wsL_texts (wsX4_init) := ggL_texts_X4_init
