set_option maxRecDepth 100000 in
theorem ggL_known_L_refused : GoodIn wsL_known wsL_refused := goodIn_ca (goodIn_ca (goodIn_ca (gc_big (List.mem_of_getElem? (i := 148) rfl) (goodIn_app (goodIn_app (goodIn_app (goodIn_app (goodIn_app (goodIn_app ggp6_0 (goodIn_app ggp6_1 (goodIn_app ggp6_2 (goodIn_app ggp6_3 (goodIn_app ggp6_4 (goodIn_app ggp6_5 (goodIn_app ggp6_6 (goodIn_app ggp6_7 (goodIn_app ggp6_8 (goodIn_app ggp6_9 (goodIn_app ggp6_10 (goodIn_app ggp6_11 (goodIn_app ggp6_12 (goodIn_app ggp6_13 (goodIn_app ggp6_14 (goodIn_app ggp6_15 (goodIn_app ggp6_16 ggp6_17))))))))))))))))) ggp6_18) ggp6_19) ggp6_20) ggp6_21) ggp6_22)) (goodIn_sub (fun _ h => List.mem_cons_of_mem _ (List.mem_append_left _ (List.mem_append_left _ (List.mem_append_right _ h)))) (by decide +kernel))) (goodIn_sub (fun _ h => List.mem_cons_of_mem _ (List.mem_append_left _ (List.mem_append_right _ h))) (by decide +kernel))) (goodIn_sub (fun _ h => List.mem_cons_of_mem _ (List.mem_append_right _ h)) (by decide +kernel))
set_option maxRecDepth 20000 in
theorem gL_known_L_refused : GoodIn wsL_known (va_wsS RL 198 yL_refused wsL_refused) := goodIn_app (goodIn_of _ (by decide +kernel)) ggL_known_L_refused
set_option maxRecDepth 20000 in
theorem ggp7_0 : GoodIn wsL_known wsL_isDigest_r1 := goodIn_r _ [530, 531, 532, 147, 533, 534, 535, 536, 537, 406, 407, 408, 409, 410, 161, 162, 3, 163, 164, 165, 13, 166, 167, 168] (by decide +kernel) (by decide +kernel)
set_option maxRecDepth 20000 in
theorem ggp7_1 : GoodIn wsL_known wsL_isDigest_r2 := goodIn_r _ [169, 170, 155, 171, 172, 173, 174, 12, 175, 44, 40, 176, 177, 178, 179, 180, 181, 182, 183, 42, 30, 184, 185, 186] (by decide +kernel) (by decide +kernel)
set_option maxRecDepth 20000 in
theorem ggp7_2 : GoodIn wsL_known wsL_isDigest_r3 := goodIn_r _ [187, 27, 188, 54, 50, 189, 190, 191, 192, 465, 466, 467, 414, 468, 198, 199, 200, 201, 202, 203, 204, 205, 206, 207] (by decide +kernel) (by decide +kernel)
set_option maxRecDepth 20000 in
theorem ggp7_3 : GoodIn wsL_known wsL_isDigest_r4 := goodIn_r _ [208, 209, 210, 211, 212, 213, 214, 469, 470, 471, 472, 220, 221, 222, 223, 224, 225, 226, 227, 228, 229, 230, 231, 232] (by decide +kernel) (by decide +kernel)
set_option maxRecDepth 20000 in
theorem ggp7_4 : GoodIn wsL_known wsL_isDigest_r5 := goodIn_r _ [233, 234, 235, 236, 53, 55, 237, 238, 239, 240, 241, 242, 243, 244, 245, 246, 247, 248, 28, 249, 461, 462, 463, 464] (by decide +kernel) (by decide +kernel)
set_option maxRecDepth 20000 in
theorem ggp7_5 : GoodIn wsL_known wsL_isDigest_r6 := goodIn_r _ [255, 256, 257, 258, 259, 260, 261, 262, 263, 264, 265, 266, 267, 268, 269, 270, 271, 272, 273, 274, 275, 276, 277, 278] (by decide +kernel) (by decide +kernel)
set_option maxRecDepth 20000 in
theorem ggp7_6 : GoodIn wsL_known wsL_isDigest_r7 := goodIn_r _ [279, 37, 473, 474, 475, 476, 281, 282, 283, 284, 285, 286, 287, 288, 43, 289, 290, 291, 292, 293, 294, 295, 296, 297] (by decide +kernel) (by decide +kernel)
set_option maxRecDepth 20000 in
theorem ggp7_7 : GoodIn wsL_known wsL_isDigest_r8 := goodIn_r _ [298, 299, 300, 301, 501, 502, 503, 504, 314, 315, 316, 317, 318, 306, 307, 308, 309, 310, 311, 312, 319, 538, 539, 540] (by decide +kernel) (by decide +kernel)
set_option maxRecDepth 20000 in
theorem ggp7_8 : GoodIn wsL_known wsL_isDigest_r9 := goodIn_r _ [541, 320, 321, 322, 323, 14, 324, 325, 326, 327, 328, 329, 330, 331, 39, 41, 332, 333, 334, 335, 336, 51, 52, 337] (by decide +kernel) (by decide +kernel)
set_option maxRecDepth 20000 in
theorem ggp7_9 : GoodIn wsL_known wsL_isDigest_r10 := goodIn_r _ [338, 339, 46, 340, 59, 60, 61, 62, 63, 64, 65, 66, 341, 342, 343, 344, 345, 346, 347, 348, 349, 350, 351, 352] (by decide +kernel) (by decide +kernel)
set_option maxRecDepth 20000 in
theorem ggp7_10 : GoodIn wsL_known wsL_isDigest_r11 := goodIn_r _ [353, 354, 355, 356, 357, 358, 359, 360, 361, 362, 363, 364, 365, 366, 367, 368, 369, 370, 371, 372, 373, 374, 375, 376] (by decide +kernel) (by decide +kernel)
set_option maxRecDepth 20000 in
theorem ggp7_11 : GoodIn wsL_known wsL_isDigest_r12 := goodIn_r _ [377, 378, 379, 380, 381, 382, 383, 384, 385, 386, 387, 388, 389, 390, 391, 392, 393, 394, 395, 396, 397, 398, 399, 400] (by decide +kernel) (by decide +kernel)
set_option maxRecDepth 20000 in
theorem ggp7_12 : GoodIn wsL_known wsL_isDigest_r13 := goodIn_r _ [401, 402, 149, 150, 151, 152, 153, 20, 154, 16, 156, 157, 158, 159, 160, 193, 194, 195, 196, 197, 215, 216, 217, 218] (by decide +kernel) (by decide +kernel)
set_option maxRecDepth 20000 in
theorem ggp7_13 : GoodIn wsL_known wsL_isDigest_r14 := goodIn_r _ [219, 250, 251, 252, 253, 254, 280, 302, 303, 304, 305, 313] (by decide +kernel) (by decide +kernel)
set_option maxRecDepth 20000 in
theorem ggp7_14 : GoodIn wsL_known wsX40 := goodIn_r _ [557, 558, 559, 560, 561] (by decide +kernel) (by decide +kernel)
set_option maxRecDepth 20000 in
theorem ggp7_15 : GoodIn wsL_known wsX00 := goodIn_r _ [562, 563, 564, 565, 566, 567, 568, 569, 570] (by decide +kernel) (by decide +kernel)
set_option maxRecDepth 20000 in
theorem ggp7_16 : GoodIn wsL_known wsX10 := goodIn_r _ [573, 574, 575, 576, 577, 578] (by decide +kernel) (by decide +kernel)
set_option maxRecDepth 20000 in
theorem ggp7_17 : GoodIn wsL_known wsX30 := goodIn_r _ [579, 580, 581, 582, 583, 584, 585, 586] (by decide +kernel) (by decide +kernel)
set_option maxRecDepth 20000 in
theorem ggp7_18 : GoodIn wsL_known wsX20 := goodIn_r _ [571, 572] (by decide +kernel) (by decide +kernel)
set_option maxRecDepth 100000 in
theorem ggL_known_L_isDigest : GoodIn wsL_known wsL_isDigest := goodIn_ca (goodIn_ca (gc_big (List.mem_of_getElem? (i := 529) rfl) (goodIn_app (goodIn_app (goodIn_app (goodIn_app (goodIn_app (goodIn_app ggp7_0 (goodIn_app ggp7_1 (goodIn_app ggp7_2 (goodIn_app ggp7_3 (goodIn_app ggp7_4 (goodIn_app ggp7_5 (goodIn_app ggp7_6 (goodIn_app ggp7_7 (goodIn_app ggp7_8 (goodIn_app ggp7_9 (goodIn_app ggp7_10 (goodIn_app ggp7_11 (goodIn_app ggp7_12 ggp7_13))))))))))))) ggp7_14) ggp7_15) ggp7_16) ggp7_17) ggp7_18)) (goodIn_sub (fun _ h => List.mem_cons_of_mem _ (List.mem_append_left _ (List.mem_append_left _ (List.mem_append_right _ h)))) (by decide +kernel))) (goodIn_sub (fun _ h => List.mem_cons_of_mem _ (List.mem_append_left _ (List.mem_append_right _ h))) (by decide +kernel))
set_option maxRecDepth 20000 in
theorem gL_known_L_isDigest : GoodIn wsL_known (va_wsS RL 201 yL_isDigest wsL_isDigest) := goodIn_app (goodIn_of _ (by decide +kernel)) ggL_known_L_isDigest
set_option maxRecDepth 20000 in
theorem ggL_known_L_all : GoodIn wsL_known wsL_all := goodIn_ca (goodIn_r _ [408, 409, 410, 161, 162, 3, 163, 164, 165, 13, 166, 167, 168, 169, 170, 155, 171, 172, 173, 174, 12, 175, 44, 40, 176, 177, 178, 179, 180, 181, 182, 183, 42, 30, 184, 185, 186, 187, 27, 188, 54, 50, 189, 190, 191, 192, 557, 558, 559, 560, 561, 562, 563, 564, 565, 566, 567, 568, 569, 570, 573, 574, 575, 576, 577, 578, 579, 580, 581, 582, 583, 584, 585, 586] (by decide +kernel) (by decide +kernel)) (goodIn_sub (fun _ h => List.mem_cons_of_mem _ (List.mem_append_left _ (List.mem_append_left _ (List.mem_append_right _ h)))) (by decide +kernel))
set_option maxRecDepth 20000 in
theorem gL_known_L_all : GoodIn wsL_known (va_wsS RL 73 yL_all wsL_all) := goodIn_app (goodIn_of _ (by decide +kernel)) ggL_known_L_all
set_option maxRecDepth 20000 in
theorem ggL_known_L_blockBy : GoodIn wsL_known wsL_blockBy := goodIn_ca (goodIn_ca (goodIn_r _ [471, 414, 409, 472, 220, 221, 3, 222, 164, 165, 13, 166, 223, 224, 225, 226, 227, 228, 208, 209, 168, 229, 230, 231, 27, 232, 233, 234, 235, 236, 53, 55, 237, 238, 239, 240, 54, 241, 242, 243, 244, 245, 246, 247, 12, 248, 42, 28, 249, 30, 214, 557, 558, 559, 560, 561, 562, 563, 564, 565, 566, 567, 568, 569, 570, 573, 574, 575, 576, 577, 578, 579, 580, 581, 582, 583, 584, 585, 586] (by decide +kernel) (by decide +kernel)) (goodIn_sub (fun _ h => List.mem_cons_of_mem _ (List.mem_append_left _ (List.mem_append_left _ (List.mem_append_right _ h)))) (by decide +kernel))) (goodIn_sub (fun _ h => List.mem_cons_of_mem _ (List.mem_append_left _ (List.mem_append_right _ h))) (by decide +kernel))
set_option maxRecDepth 20000 in
theorem gL_known_L_blockBy : GoodIn wsL_known (va_wsS RL 87 yL_blockBy wsL_blockBy) := goodIn_app (goodIn_of _ (by decide +kernel)) ggL_known_L_blockBy
set_option maxRecDepth 20000 in
theorem ggL_known_L_cellBy : GoodIn wsL_known wsL_cellBy := goodIn_ca (goodIn_ca (goodIn_r _ [467, 414, 409, 468, 198, 199, 3, 200, 164, 165, 13, 166, 201, 202, 203, 204, 205, 206, 207, 208, 209, 167, 210, 211, 212, 12, 213, 42, 30, 214, 557, 558, 559, 560, 561, 562, 563, 564, 565, 566, 567, 568, 569, 570, 573, 574, 575, 576, 577, 578, 579, 580, 581, 582, 583, 584, 585, 586] (by decide +kernel) (by decide +kernel)) (goodIn_sub (fun _ h => List.mem_cons_of_mem _ (List.mem_append_left _ (List.mem_append_left _ (List.mem_append_right _ h)))) (by decide +kernel))) (goodIn_sub (fun _ h => List.mem_cons_of_mem _ (List.mem_append_left _ (List.mem_append_right _ h))) (by decide +kernel))
set_option maxRecDepth 20000 in
theorem gL_known_L_cellBy : GoodIn wsL_known (va_wsS RL 83 yL_cellBy wsL_cellBy) := goodIn_app (goodIn_of _ (by decide +kernel)) ggL_known_L_cellBy
set_option maxRecDepth 20000 in
theorem ggL_known_X4_mostFriction : GoodIn wsL_known wsX4_mostFriction := goodIn_r _ [545, 453, 452, 320, 321, 322, 3, 323, 14, 13, 155, 324, 325, 326, 12, 327, 28, 30, 37, 328, 329, 330, 331, 39, 40, 41, 42, 43, 44, 332, 333, 334, 27, 335, 50, 336, 51, 52, 53, 54, 55, 337, 338, 339, 46, 340, 59, 60, 61, 62, 63, 64, 65, 66, 180, 181, 182, 183, 184, 341, 342, 343, 344, 345, 346, 347, 348, 288, 349, 285, 286, 287, 289, 272, 273, 274, 249, 214, 290, 291, 292, 293, 294, 295, 296, 297, 298, 234, 235, 236, 299, 211, 212, 213, 300, 246, 247, 248, 301, 173, 174, 175, 176, 177, 178, 179, 350, 351, 352, 353, 354, 355, 356, 357, 358, 359, 360, 361, 362, 363, 364, 365, 366, 367, 368, 369, 276, 277, 278, 279, 370, 371, 372, 373, 374, 311, 191, 312, 237, 238, 239, 240, 375, 376, 377, 378, 379, 380, 381, 382, 383, 384, 385, 386, 387, 388, 389, 390, 391, 392, 393, 394, 395, 396, 397, 398, 399, 400, 401, 402, 557, 558, 559, 560, 561, 562, 563, 564, 565, 566, 567, 568, 569, 570, 573, 574, 575, 576, 577, 578, 579, 580, 581, 582, 583, 584, 585, 586] (by decide +kernel) (by decide +kernel)
set_option maxRecDepth 20000 in
theorem gL_known_X4_mostFriction : GoodIn wsL_known (wsV RL 205 RX4 yX4_mostFriction wsX4_mostFriction) := goodIn_app (goodIn_of _ (by decide +kernel)) ggL_known_X4_mostFriction
set_option maxRecDepth 20000 in
theorem ggL_known_X4_ticksToValley : GoodIn wsL_known wsX4_ticksToValley := goodIn_r _ [541, 13, 155, 320, 321, 322, 3, 323, 14, 324, 325, 326, 12, 327, 28, 30, 37, 328, 329, 330, 331, 39, 40, 41, 42, 43, 44, 332, 333, 334, 27, 335, 50, 336, 51, 52, 53, 54, 55, 337, 338, 339, 46, 340, 59, 60, 61, 62, 63, 64, 65, 66, 180, 181, 182, 183, 184, 341, 342, 343, 344, 345, 346, 347, 348, 288, 349, 285, 286, 287, 289, 272, 273, 274, 249, 214, 290, 291, 292, 293, 294, 295, 296, 297, 298, 234, 235, 236, 299, 211, 212, 213, 300, 246, 247, 248, 301, 173, 174, 175, 176, 177, 178, 179, 350, 351, 352, 353, 354, 355, 356, 357, 358, 359, 360, 361, 362, 363, 364, 365, 366, 367, 368, 369, 276, 277, 278, 279, 370, 371, 372, 373, 374, 311, 191, 312, 237, 238, 239, 240, 375, 376, 377, 378, 379, 380, 381, 382, 383, 384, 385, 386, 387, 388, 389, 390, 391, 392, 393, 394, 395, 396, 397, 398, 399, 400, 401, 402, 557, 558, 559, 560, 561, 562, 563, 564, 565, 566, 567, 568, 569, 570, 573, 574, 575, 576, 577, 578, 579, 580, 581, 582, 583, 584, 585, 586] (by decide +kernel) (by decide +kernel)
set_option maxRecDepth 20000 in
theorem gL_known_X4_ticksToValley : GoodIn wsL_known (wsV RL 99 RX4 yX4_ticksToValley wsX4_ticksToValley) := goodIn_app (goodIn_of _ (by decide +kernel)) ggL_known_X4_ticksToValley
set_option maxRecDepth 20000 in
theorem ggL_known_L_taking : GoodIn wsL_known wsL_taking := goodIn_ca (goodIn_r _ [548, 415, 549, 550, 551, 3, 552, 420, 421, 13, 169, 423, 424, 425, 426, 16, 15, 324, 325, 326, 12, 327, 28, 30, 37, 328, 329, 330, 331, 39, 40, 41, 42, 43, 44, 332, 333, 334, 27, 335, 50, 336, 51, 52, 53, 54, 55, 337, 338, 339, 46, 340, 59, 60, 61, 62, 63, 64, 65, 66, 557, 558, 559, 560, 561, 562, 563, 564, 565, 566, 567, 568, 569, 570, 573, 574, 575, 576, 577, 578, 579, 580, 581, 582, 583, 584, 585, 586] (by decide +kernel) (by decide +kernel)) (goodIn_sub (fun _ h => List.mem_cons_of_mem _ (List.mem_append_right _ h)) (by decide +kernel))
set_option maxRecDepth 20000 in
theorem gL_known_L_taking : GoodIn wsL_known (va_wsS RL 208 yL_taking wsL_taking) := goodIn_app (goodIn_of _ (by decide +kernel)) ggL_known_L_taking
