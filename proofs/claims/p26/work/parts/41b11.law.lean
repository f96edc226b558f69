set_option maxRecDepth 20000 in
theorem ggL_law_L_part : GoodIn wsL_law wsL_part := goodIn_r _ [626, 627] (by decide +kernel) (by decide +kernel)
set_option maxRecDepth 20000 in
theorem gL_law_L_part : GoodIn wsL_law (va_wsS RL 226 yL_part wsL_part) := goodIn_app (goodIn_of _ (by decide +kernel)) ggL_law_L_part
set_option maxRecDepth 20000 in
theorem ggp10_0 : GoodIn wsL_law wsL_from_r1 := goodIn_r _ [467, 468, 8, 469, 178, 470, 200, 201, 2, 202, 184, 185, 39, 203, 204, 205, 206, 207, 194, 208, 209, 210, 211, 38] (by decide +kernel) (by decide +kernel)
set_option maxRecDepth 20000 in
theorem ggp10_1 : GoodIn wsL_law wsL_from_r2 := goodIn_r _ [212, 70, 66, 213, 214, 215, 216, 217, 218, 219, 220, 68, 56, 221, 222, 223, 224, 53, 225, 80, 76, 226, 227, 228] (by decide +kernel) (by decide +kernel)
set_option maxRecDepth 20000 in
theorem ggp10_2 : GoodIn wsL_law wsL_from_r3 := goodIn_r _ [229, 594, 595, 596, 597, 539, 540, 541, 474, 542, 235, 236, 237, 238, 239, 240, 241, 242, 243, 244, 245, 246, 247, 248] (by decide +kernel) (by decide +kernel)
set_option maxRecDepth 20000 in
theorem ggp10_3 : GoodIn wsL_law wsL_from_r4 := goodIn_r _ [249, 250, 251, 471, 472, 473, 475, 257, 258, 259, 260, 261, 262, 263, 264, 265, 266, 267, 268, 269, 270, 271, 272, 273] (by decide +kernel) (by decide +kernel)
set_option maxRecDepth 20000 in
theorem ggp10_4 : GoodIn wsL_law wsL_from_r5 := goodIn_r _ [79, 81, 274, 275, 276, 277, 278, 279, 280, 281, 282, 283, 284, 285, 54, 286, 535, 536, 537, 538, 292, 293, 294, 295] (by decide +kernel) (by decide +kernel)
set_option maxRecDepth 20000 in
theorem ggp10_5 : GoodIn wsL_law wsL_from_r6 := goodIn_r _ [296, 297, 298, 299, 300, 301, 302, 303, 304, 305, 306, 307, 308, 309, 310, 311, 312, 313, 314, 315, 316, 63, 543, 544] (by decide +kernel) (by decide +kernel)
set_option maxRecDepth 20000 in
theorem ggp10_6 : GoodIn wsL_law wsL_from_r7 := goodIn_r _ [545, 546, 318, 319, 320, 321, 322, 323, 324, 325, 69, 326, 327, 328, 329, 330, 331, 332, 333, 334, 335, 336, 337, 338] (by decide +kernel) (by decide +kernel)
set_option maxRecDepth 20000 in
theorem ggp10_7 : GoodIn wsL_law wsL_from_r8 := goodIn_r _ [571, 572, 573, 574, 351, 352, 353, 354, 355, 343, 344, 345, 346, 347, 348, 349, 356, 601, 602, 603, 604, 357, 358, 359] (by decide +kernel) (by decide +kernel)
set_option maxRecDepth 20000 in
theorem ggp10_8 : GoodIn wsL_law wsL_from_r9 := goodIn_r _ [360, 40, 361, 362, 363, 364, 365, 366, 367, 368, 65, 67, 369, 370, 371, 372, 373, 77, 78, 374, 375, 376, 72, 377] (by decide +kernel) (by decide +kernel)
set_option maxRecDepth 20000 in
theorem ggp10_9 : GoodIn wsL_law wsL_from_r10 := goodIn_r _ [85, 86, 87, 88, 89, 90, 91, 92, 378, 379, 380, 381, 382, 383, 384, 385, 386, 387, 388, 389, 390, 391, 392, 393] (by decide +kernel) (by decide +kernel)
set_option maxRecDepth 20000 in
theorem ggp10_10 : GoodIn wsL_law wsL_from_r11 := goodIn_r _ [394, 395, 396, 397, 398, 399, 400, 401, 402, 403, 404, 405, 406, 407, 408, 409, 410, 411, 412, 413, 414, 415, 416, 417] (by decide +kernel) (by decide +kernel)
set_option maxRecDepth 20000 in
theorem ggp10_11 : GoodIn wsL_law wsL_from_r12 := goodIn_r _ [418, 419, 420, 421, 422, 423, 424, 425, 426, 427, 428, 429, 430, 431, 432, 433, 434, 435, 436, 437, 438, 439] (by decide +kernel) (by decide +kernel)
set_option maxRecDepth 20000 in
theorem ggp10_12 : GoodIn wsL_law wsX40 := goodIn_r _ [628, 629, 630, 631, 632] (by decide +kernel) (by decide +kernel)
set_option maxRecDepth 20000 in
theorem ggp10_13 : GoodIn wsL_law wsX00 := goodIn_r _ [633, 634, 635, 636, 637, 638, 639, 640, 641] (by decide +kernel) (by decide +kernel)
set_option maxRecDepth 20000 in
theorem ggp10_14 : GoodIn wsL_law wsX10 := goodIn_r _ [644, 645, 646, 647, 648, 649] (by decide +kernel) (by decide +kernel)
set_option maxRecDepth 20000 in
theorem ggp10_15 : GoodIn wsL_law wsX30 := goodIn_r _ [650, 651, 652, 653, 654, 655, 656, 657] (by decide +kernel) (by decide +kernel)
set_option maxRecDepth 100000 in
theorem ggL_law_L_from : GoodIn wsL_law wsL_from := goodIn_ca (goodIn_ca (gc_big (List.mem_of_getElem? (i := 600) rfl) (goodIn_app (goodIn_app (goodIn_app (goodIn_app (goodIn_app ggp10_0 (goodIn_app ggp10_1 (goodIn_app ggp10_2 (goodIn_app ggp10_3 (goodIn_app ggp10_4 (goodIn_app ggp10_5 (goodIn_app ggp10_6 (goodIn_app ggp10_7 (goodIn_app ggp10_8 (goodIn_app ggp10_9 (goodIn_app ggp10_10 ggp10_11))))))))))) ggp10_12) ggp10_13) ggp10_14) ggp10_15)) (goodIn_sub (fun _ h => List.mem_append_left _ (List.mem_append_left _ (List.mem_append_right _ h))) (by decide +kernel))) (goodIn_sub (fun _ h => List.mem_append_right _ h) (by decide +kernel))
set_option maxRecDepth 20000 in
theorem gL_law_L_from : GoodIn wsL_law (va_wsS RL 104 yL_from wsL_from) := goodIn_app (goodIn_of _ (by decide +kernel)) ggL_law_L_from
set_option maxRecDepth 20000 in
theorem ggL_law_L_all : GoodIn wsL_law wsL_all := goodIn_ca (goodIn_r _ [469, 178, 470, 200, 201, 2, 202, 184, 185, 39, 203, 204, 205, 206, 207, 194, 208, 209, 210, 211, 38, 212, 70, 66, 213, 214, 215, 216, 217, 218, 219, 220, 68, 56, 221, 222, 223, 224, 53, 225, 80, 76, 226, 227, 228, 229, 628, 629, 630, 631, 632, 633, 634, 635, 636, 637, 638, 639, 640, 641, 644, 645, 646, 647, 648, 649, 650, 651, 652, 653, 654, 655, 656, 657] (by decide +kernel) (by decide +kernel)) (goodIn_sub (fun _ h => List.mem_append_left _ (List.mem_append_left _ (List.mem_append_right _ h))) (by decide +kernel))
set_option maxRecDepth 20000 in
theorem gL_law_L_all : GoodIn wsL_law (va_wsS RL 73 yL_all wsL_all) := goodIn_app (goodIn_of _ (by decide +kernel)) ggL_law_L_all
set_option maxRecDepth 20000 in
theorem ggL_law_L_adding : GoodIn wsL_law wsL_adding := goodIn_ca (goodIn_ca (goodIn_r _ [495, 474, 179, 496, 497, 498, 2, 499, 186, 187, 39, 206, 262, 263, 264, 265, 245, 246, 203, 205, 500, 332, 333, 38, 334, 54, 56, 221, 335, 271, 272, 53, 273, 79, 81, 336, 248, 249, 250, 68, 251, 337, 283, 284, 285, 286, 456, 457, 458, 459, 42, 41, 361, 362, 363, 364, 63, 365, 366, 367, 368, 65, 66, 67, 69, 70, 369, 370, 371, 372, 76, 373, 77, 78, 80, 374, 375, 376, 72, 377, 85, 86, 87, 88, 89, 90, 91, 92, 501, 502, 503, 504, 505, 506, 507, 508, 509, 510, 427, 428, 429, 628, 629, 630, 631, 632, 633, 634, 635, 636, 637, 638, 639, 640, 641, 644, 645, 646, 647, 648, 649, 650, 651, 652, 653, 654, 655, 656, 657] (by decide +kernel) (by decide +kernel)) (goodIn_sub (fun _ h => List.mem_append_left _ (List.mem_append_right _ h)) (by decide +kernel))) (goodIn_sub (fun _ h => List.mem_append_right _ h) (by decide +kernel))
set_option maxRecDepth 20000 in
theorem gL_law_L_adding : GoodIn wsL_law (va_wsS RL 112 yL_adding wsL_adding) := goodIn_app (goodIn_of _ (by decide +kernel)) ggL_law_L_adding
set_option maxRecDepth 20000 in
theorem ggL_law_L_passing : GoodIn wsL_law wsL_passing := goodIn_ca (goodIn_ca (goodIn_r _ [577, 178, 179, 578, 579, 580, 2, 581, 184, 185, 186, 187, 39, 207, 582, 208, 456, 457, 458, 459, 42, 41, 361, 362, 363, 38, 364, 54, 56, 63, 365, 366, 367, 368, 65, 66, 67, 68, 69, 70, 369, 370, 371, 53, 372, 76, 373, 77, 78, 79, 80, 81, 374, 375, 376, 72, 377, 85, 86, 87, 88, 89, 90, 91, 92, 378, 379, 380, 381, 221, 382, 383, 384, 385, 325, 386, 322, 323, 324, 326, 309, 310, 311, 286, 251, 327, 328, 329, 330, 331, 332, 333, 334, 335, 271, 272, 273, 336, 248, 249, 250, 337, 283, 284, 285, 338, 210, 211, 212, 213, 214, 215, 216, 387, 388, 389, 390, 391, 392, 393, 394, 395, 396, 397, 398, 399, 400, 401, 402, 403, 404, 405, 406, 313, 314, 315, 316, 407, 408, 409, 410, 411, 348, 228, 349, 274, 275, 276, 277, 412, 413, 414, 415, 416, 417, 418, 419, 420, 421, 422, 423, 424, 425, 426, 427, 428, 429, 430, 431, 432, 433, 434, 435, 436, 437, 438, 439, 628, 629, 630, 631, 632, 633, 634, 635, 636, 637, 638, 639, 640, 641, 644, 645, 646, 647, 648, 649, 650, 651, 652, 653, 654, 655, 656, 657] (by decide +kernel) (by decide +kernel)) (goodIn_sub (fun _ h => List.mem_append_left _ (List.mem_append_left _ (List.mem_append_right _ h))) (by decide +kernel))) (goodIn_sub (fun _ h => List.mem_append_left _ (List.mem_append_right _ h)) (by decide +kernel))
set_option maxRecDepth 20000 in
theorem gL_law_L_passing : GoodIn wsL_law (va_wsS RL 134 yL_passing wsL_passing) := goodIn_app (goodIn_of _ (by decide +kernel)) ggL_law_L_passing
set_option maxRecDepth 20000 in
theorem ggL_law_L_taking : GoodIn wsL_law wsL_taking := goodIn_ca (goodIn_r _ [611, 179, 612, 613, 614, 2, 615, 186, 187, 39, 206, 456, 457, 458, 459, 42, 41, 361, 362, 363, 38, 364, 54, 56, 63, 365, 366, 367, 368, 65, 66, 67, 68, 69, 70, 369, 370, 371, 53, 372, 76, 373, 77, 78, 79, 80, 81, 374, 375, 376, 72, 377, 85, 86, 87, 88, 89, 90, 91, 92, 628, 629, 630, 631, 632, 633, 634, 635, 636, 637, 638, 639, 640, 641, 644, 645, 646, 647, 648, 649, 650, 651, 652, 653, 654, 655, 656, 657] (by decide +kernel) (by decide +kernel)) (goodIn_sub (fun _ h => List.mem_append_left _ (List.mem_append_right _ h)) (by decide +kernel))
set_option maxRecDepth 20000 in
theorem gL_law_L_taking : GoodIn wsL_law (va_wsS RL 208 yL_taking wsL_taking) := goodIn_app (goodIn_of _ (by decide +kernel)) ggL_law_L_taking
set_option maxRecDepth 20000 in
theorem ggL_law_L_rescuing : GoodIn wsL_law wsL_rescuing := goodIn_ca (goodIn_ca (goodIn_r _ [513, 474, 179, 514, 515, 516, 2, 517, 186, 187, 39, 295, 300, 296, 203, 260, 304, 305, 306, 307, 245, 246, 206, 456, 457, 458, 459, 42, 41, 361, 362, 363, 38, 364, 54, 56, 63, 365, 366, 367, 368, 65, 66, 67, 68, 69, 70, 369, 370, 371, 53, 372, 76, 373, 77, 78, 79, 80, 81, 374, 375, 376, 72, 377, 85, 86, 87, 88, 89, 90, 91, 92, 308, 309, 310, 311, 286, 251, 518, 427, 428, 429, 628, 629, 630, 631, 632, 633, 634, 635, 636, 637, 638, 639, 640, 641, 650, 651, 652, 653, 654, 655, 656, 657, 644, 645, 646, 647, 648, 649] (by decide +kernel) (by decide +kernel)) (goodIn_sub (fun _ h => List.mem_append_left _ (List.mem_append_right _ h)) (by decide +kernel))) (goodIn_sub (fun _ h => List.mem_append_right _ h) (by decide +kernel))
set_option maxRecDepth 20000 in
theorem gL_law_L_rescuing : GoodIn wsL_law (va_wsS RL 115 yL_rescuing wsL_rescuing) := goodIn_app (goodIn_of _ (by decide +kernel)) ggL_law_L_rescuing
set_option maxRecDepth 20000 in
theorem ggL_law_L_heighten : GoodIn wsL_law wsL_heighten := goodIn_ca (goodIn_ca (goodIn_r _ [530, 474, 178, 531, 532, 533, 2, 534, 184, 185, 39, 203, 238, 241, 242, 243, 244, 245, 246, 204, 456, 457, 458, 459, 42, 41, 361, 362, 363, 38, 364, 54, 56, 63, 365, 366, 367, 368, 65, 66, 67, 68, 69, 70, 369, 370, 371, 53, 372, 76, 373, 77, 78, 79, 80, 81, 374, 375, 376, 72, 377, 85, 86, 87, 88, 89, 90, 91, 92, 628, 629, 630, 631, 632, 633, 634, 635, 636, 637, 638, 639, 640, 641, 644, 645, 646, 647, 648, 649, 650, 651, 652, 653, 654, 655, 656, 657] (by decide +kernel) (by decide +kernel)) (goodIn_sub (fun _ h => List.mem_append_left _ (List.mem_append_left _ (List.mem_append_right _ h))) (by decide +kernel))) (goodIn_sub (fun _ h => List.mem_append_right _ h) (by decide +kernel))
set_option maxRecDepth 20000 in
theorem gL_law_L_heighten : GoodIn wsL_law (va_wsS RL 121 yL_heighten wsL_heighten) := goodIn_app (goodIn_of _ (by decide +kernel)) ggL_law_L_heighten
