set_option maxRecDepth 20000 in
theorem ggL_known_L_sent : GoodIn wsL_known wsL_sent := goodIn_ca (goodIn_ca (goodIn_r _ [503, 414, 409, 504, 314, 315, 3, 316, 208, 209, 164, 165, 13, 317, 318, 306, 307, 308, 12, 309, 44, 310, 311, 191, 312, 319, 177, 178, 179, 557, 558, 559, 560, 561, 562, 563, 564, 565, 566, 567, 568, 569, 570] (by decide +kernel) (by decide +kernel)) (goodIn_sub (fun _ h => List.mem_cons_of_mem _ (List.mem_append_left _ (List.mem_append_right _ h))) (by decide +kernel))) (goodIn_sub (fun _ h => List.mem_cons_of_mem _ (List.mem_append_left _ (List.mem_append_left _ (List.mem_append_right _ h)))) (by decide +kernel))
set_option maxRecDepth 20000 in
theorem gL_known_L_sent : GoodIn wsL_known (va_wsS RL 96 yL_sent wsL_sent) := goodIn_app (goodIn_of _ (by decide +kernel)) ggL_known_L_sent
set_option maxRecDepth 20000 in
theorem ggL_known_L_heighten : GoodIn wsL_known wsL_heighten := goodIn_ca (goodIn_ca (goodIn_r _ [456, 414, 409, 457, 458, 459, 3, 460, 164, 165, 13, 166, 201, 204, 205, 206, 207, 208, 209, 167, 423, 424, 425, 426, 16, 15, 324, 325, 326, 12, 327, 28, 30, 37, 328, 329, 330, 331, 39, 40, 41, 42, 43, 44, 332, 333, 334, 27, 335, 50, 336, 51, 52, 53, 54, 55, 337, 338, 339, 46, 340, 59, 60, 61, 62, 63, 64, 65, 66, 557, 558, 559, 560, 561, 562, 563, 564, 565, 566, 567, 568, 569, 570, 573, 574, 575, 576, 577, 578, 579, 580, 581, 582, 583, 584, 585, 586] (by decide +kernel) (by decide +kernel)) (goodIn_sub (fun _ h => List.mem_cons_of_mem _ (List.mem_append_left _ (List.mem_append_left _ (List.mem_append_right _ h)))) (by decide +kernel))) (goodIn_sub (fun _ h => List.mem_cons_of_mem _ (List.mem_append_left _ (List.mem_append_right _ h))) (by decide +kernel))
set_option maxRecDepth 20000 in
theorem gL_known_L_heighten : GoodIn wsL_known (va_wsS RL 121 yL_heighten wsL_heighten) := goodIn_app (goodIn_of _ (by decide +kernel)) ggL_known_L_heighten
set_option maxRecDepth 20000 in
theorem ggL_known_L_setting : GoodIn wsL_known wsL_setting := goodIn_ca (goodIn_ca (goodIn_r _ [447, 414, 409, 448, 449, 450, 3, 451, 208, 209, 164, 165, 452, 453, 13, 155, 423, 424, 425, 426, 16, 15, 324, 325, 326, 12, 327, 28, 30, 37, 328, 329, 330, 331, 39, 40, 41, 42, 43, 44, 332, 333, 334, 27, 335, 50, 336, 51, 52, 53, 54, 55, 337, 338, 339, 46, 340, 59, 60, 61, 62, 63, 64, 65, 66, 557, 558, 559, 560, 561, 562, 563, 564, 565, 566, 567, 568, 569, 570, 573, 574, 575, 576, 577, 578, 579, 580, 581, 582, 583, 584, 585, 586] (by decide +kernel) (by decide +kernel)) (goodIn_sub (fun _ h => List.mem_cons_of_mem _ (List.mem_append_left _ (List.mem_append_right _ h))) (by decide +kernel))) (goodIn_sub (fun _ h => List.mem_cons_of_mem _ (List.mem_append_left _ (List.mem_append_left _ (List.mem_append_right _ h)))) (by decide +kernel))
set_option maxRecDepth 20000 in
theorem gL_known_L_setting : GoodIn wsL_known (va_wsS RL 118 yL_setting wsL_setting) := goodIn_app (goodIn_of _ (by decide +kernel)) ggL_known_L_setting
set_option maxRecDepth 20000 in
theorem ggL_known_X4_meanWarmth : GoodIn wsL_known wsX4_meanWarmth := goodIn_r _ [556, 13, 169, 258, 262, 557, 558, 559, 560, 561, 562, 563, 564, 565, 566, 567, 568, 569, 570, 579, 580, 581, 582, 583, 584, 585, 586] (by decide +kernel) (by decide +kernel)
set_option maxRecDepth 20000 in
theorem gL_known_X4_meanWarmth : GoodIn wsL_known (wsV RL 211 RX4 yX4_meanWarmth wsX4_meanWarmth) := goodIn_app (goodIn_of _ (by decide +kernel)) ggL_known_X4_meanWarmth
theorem dL_known_0 : decode cL_known 0 = .ok (.new 10, 3) := by decide +kernel
theorem dL_known_3 : decode cL_known 3 = .ok (.dup, 1) := by decide +kernel
theorem dL_known_4 : decode cL_known 4 = .ok (.invokespecial 145, 3) := by decide +kernel
theorem dL_known_7 : decode cL_known 7 = .ok (.astore_n 0, 1) := by decide +kernel
theorem dL_known_8 : decode cL_known 8 = .ok (.aload_n 0, 1) := by decide +kernel
theorem dL_known_9 : decode cL_known 9 = .ok (.invokestatic 198, 3) := by decide +kernel
theorem dL_known_12 : decode cL_known 12 = .ok (.ifCond .eq 191, 3) := by decide +kernel
theorem dL_known_15 : decode cL_known 15 = .ok (.aload_n 0, 1) := by decide +kernel
theorem dL_known_16 : decode cL_known 16 = .ok (.iconst 0, 1) := by decide +kernel
theorem dL_known_17 : decode cL_known 17 = .ok (.iconst 0, 1) := by decide +kernel
theorem dL_known_18 : decode cL_known 18 = .ok (.invokestatic 201, 3) := by decide +kernel
theorem dL_known_21 : decode cL_known 21 = .ok (.ifCond .eq 182, 3) := by decide +kernel
theorem dL_known_24 : decode cL_known 24 = .ok (.aload_n 0, 1) := by decide +kernel
theorem dL_known_25 : decode cL_known 25 = .ok (.iconst 0, 1) := by decide +kernel
theorem dL_known_26 : decode cL_known 26 = .ok (.invokestatic 73, 3) := by decide +kernel
theorem dL_known_29 : decode cL_known 29 = .ok (.bipush 14, 2) := by decide +kernel
theorem dL_known_31 : decode cL_known 31 = .ok (.if_icmp .ne 172, 3) := by decide +kernel
theorem dL_known_34 : decode cL_known 34 = .ok (.aload_n 0, 1) := by decide +kernel
theorem dL_known_35 : decode cL_known 35 = .ok (.iconst 1, 1) := by decide +kernel
theorem dL_known_36 : decode cL_known 36 = .ok (.invokestatic 73, 3) := by decide +kernel
theorem dL_known_39 : decode cL_known 39 = .ok (.iconst 4, 1) := by decide +kernel
theorem dL_known_40 : decode cL_known 40 = .ok (.if_icmp .ne 163, 3) := by decide +kernel
theorem dL_known_43 : decode cL_known 43 = .ok (.aload_n 0, 1) := by decide +kernel
theorem dL_known_44 : decode cL_known 44 = .ok (.bipush 9, 2) := by decide +kernel
theorem dL_known_46 : decode cL_known 46 = .ok (.invokestatic 73, 3) := by decide +kernel
theorem dL_known_49 : decode cL_known 49 = .ok (.iconst (-1), 1) := by decide +kernel
theorem dL_known_50 : decode cL_known 50 = .ok (.if_icmp .ne 153, 3) := by decide +kernel
theorem dL_known_53 : decode cL_known 53 = .ok (.aload_n 0, 1) := by decide +kernel
theorem dL_known_54 : decode cL_known 54 = .ok (.bipush 11, 2) := by decide +kernel
theorem dL_known_56 : decode cL_known 56 = .ok (.invokestatic 73, 3) := by decide +kernel
theorem dL_known_59 : decode cL_known 59 = .ok (.bipush 7, 2) := by decide +kernel
theorem dL_known_61 : decode cL_known 61 = .ok (.if_icmp .ne 142, 3) := by decide +kernel
theorem dL_known_64 : decode cL_known 64 = .ok (.aload_n 0, 1) := by decide +kernel
theorem dL_known_65 : decode cL_known 65 = .ok (.iconst 0, 1) := by decide +kernel
theorem dL_known_66 : decode cL_known 66 = .ok (.iconst 0, 1) := by decide +kernel
theorem dL_known_67 : decode cL_known 67 = .ok (.invokestatic 87, 3) := by decide +kernel
theorem dL_known_70 : decode cL_known 70 = .ok (.ifCond .ne 133, 3) := by decide +kernel
theorem dL_known_73 : decode cL_known 73 = .ok (.aload_n 0, 1) := by decide +kernel
theorem dL_known_74 : decode cL_known 74 = .ok (.iconst 0, 1) := by decide +kernel
theorem dL_known_75 : decode cL_known 75 = .ok (.iconst 1, 1) := by decide +kernel
theorem dL_known_76 : decode cL_known 76 = .ok (.invokestatic 87, 3) := by decide +kernel
theorem dL_known_79 : decode cL_known 79 = .ok (.ifCond .ne 124, 3) := by decide +kernel
theorem dL_known_82 : decode cL_known 82 = .ok (.aload_n 0, 1) := by decide +kernel
theorem dL_known_83 : decode cL_known 83 = .ok (.iconst 0, 1) := by decide +kernel
theorem dL_known_84 : decode cL_known 84 = .ok (.iconst 2, 1) := by decide +kernel
theorem dL_known_85 : decode cL_known 85 = .ok (.invokestatic 87, 3) := by decide +kernel
theorem dL_known_88 : decode cL_known 88 = .ok (.iconst 1, 1) := by decide +kernel
theorem dL_known_89 : decode cL_known 89 = .ok (.if_icmp .ne 114, 3) := by decide +kernel
theorem dL_known_92 : decode cL_known 92 = .ok (.aload_n 0, 1) := by decide +kernel
theorem dL_known_93 : decode cL_known 93 = .ok (.iconst 1, 1) := by decide +kernel
theorem dL_known_94 : decode cL_known 94 = .ok (.iconst 0, 1) := by decide +kernel
theorem dL_known_95 : decode cL_known 95 = .ok (.invokestatic 87, 3) := by decide +kernel
theorem dL_known_98 : decode cL_known 98 = .ok (.iconst 1, 1) := by decide +kernel
theorem dL_known_99 : decode cL_known 99 = .ok (.if_icmp .ne 104, 3) := by decide +kernel
theorem dL_known_102 : decode cL_known 102 = .ok (.aload_n 0, 1) := by decide +kernel
theorem dL_known_103 : decode cL_known 103 = .ok (.iconst 1, 1) := by decide +kernel
theorem dL_known_104 : decode cL_known 104 = .ok (.iconst 1, 1) := by decide +kernel
theorem dL_known_105 : decode cL_known 105 = .ok (.invokestatic 87, 3) := by decide +kernel
theorem dL_known_108 : decode cL_known 108 = .ok (.iconst 5, 1) := by decide +kernel
theorem dL_known_109 : decode cL_known 109 = .ok (.if_icmp .ne 94, 3) := by decide +kernel
theorem dL_known_112 : decode cL_known 112 = .ok (.aload_n 0, 1) := by decide +kernel
theorem dL_known_113 : decode cL_known 113 = .ok (.iconst 1, 1) := by decide +kernel
theorem dL_known_114 : decode cL_known 114 = .ok (.iconst 2, 1) := by decide +kernel
theorem dL_known_115 : decode cL_known 115 = .ok (.invokestatic 87, 3) := by decide +kernel
theorem dL_known_118 : decode cL_known 118 = .ok (.iconst 5, 1) := by decide +kernel
theorem dL_known_119 : decode cL_known 119 = .ok (.if_icmp .ne 84, 3) := by decide +kernel
theorem dL_known_122 : decode cL_known 122 = .ok (.aload_n 0, 1) := by decide +kernel
theorem dL_known_123 : decode cL_known 123 = .ok (.iconst 3, 1) := by decide +kernel
theorem dL_known_124 : decode cL_known 124 = .ok (.iconst 0, 1) := by decide +kernel
theorem dL_known_125 : decode cL_known 125 = .ok (.invokestatic 87, 3) := by decide +kernel
theorem dL_known_128 : decode cL_known 128 = .ok (.bipush 11, 2) := by decide +kernel
theorem dL_known_130 : decode cL_known 130 = .ok (.if_icmp .ne 73, 3) := by decide +kernel
theorem dL_known_133 : decode cL_known 133 = .ok (.aload_n 0, 1) := by decide +kernel
theorem dL_known_134 : decode cL_known 134 = .ok (.iconst 3, 1) := by decide +kernel
theorem dL_known_135 : decode cL_known 135 = .ok (.iconst 1, 1) := by decide +kernel
theorem dL_known_136 : decode cL_known 136 = .ok (.invokestatic 87, 3) := by decide +kernel
theorem dL_known_139 : decode cL_known 139 = .ok (.bipush 13, 2) := by decide +kernel
theorem dL_known_141 : decode cL_known 141 = .ok (.if_icmp .ne 62, 3) := by decide +kernel
theorem dL_known_144 : decode cL_known 144 = .ok (.aload_n 0, 1) := by decide +kernel
theorem dL_known_145 : decode cL_known 145 = .ok (.bipush 6, 2) := by decide +kernel
theorem dL_known_147 : decode cL_known 147 = .ok (.iconst 2, 1) := by decide +kernel
theorem dL_known_148 : decode cL_known 148 = .ok (.invokestatic 83, 3) := by decide +kernel
theorem dL_known_151 : decode cL_known 151 = .ok (.iconst 2, 1) := by decide +kernel
theorem dL_known_152 : decode cL_known 152 = .ok (.if_icmp .ne 51, 3) := by decide +kernel
theorem dL_known_155 : decode cL_known 155 = .ok (.aload_n 0, 1) := by decide +kernel
theorem dL_known_156 : decode cL_known 156 = .ok (.iconst 4, 1) := by decide +kernel
theorem dL_known_157 : decode cL_known 157 = .ok (.iconst 1, 1) := by decide +kernel
theorem dL_known_158 : decode cL_known 158 = .ok (.invokestatic 83, 3) := by decide +kernel
theorem dL_known_161 : decode cL_known 161 = .ok (.iconst 1, 1) := by decide +kernel
theorem dL_known_162 : decode cL_known 162 = .ok (.if_icmp .ne 41, 3) := by decide +kernel
theorem dL_known_165 : decode cL_known 165 = .ok (.aload_n 0, 1) := by decide +kernel
theorem dL_known_166 : decode cL_known 166 = .ok (.bipush 13, 2) := by decide +kernel
theorem dL_known_168 : decode cL_known 168 = .ok (.iconst 1, 1) := by decide +kernel
theorem dL_known_169 : decode cL_known 169 = .ok (.invokestatic 83, 3) := by decide +kernel
theorem dL_known_172 : decode cL_known 172 = .ok (.iconst 2, 1) := by decide +kernel
theorem dL_known_173 : decode cL_known 173 = .ok (.if_icmp .ne 30, 3) := by decide +kernel
theorem dL_known_176 : decode cL_known 176 = .ok (.aload_n 0, 1) := by decide +kernel
theorem dL_known_177 : decode cL_known 177 = .ok (.invokevirtual 205, 3) := by decide +kernel
theorem dL_known_180 : decode cL_known 180 = .ok (.bipush 20, 2) := by decide +kernel
theorem dL_known_182 : decode cL_known 182 = .ok (.if_icmp .ne 21, 3) := by decide +kernel
theorem dL_known_185 : decode cL_known 185 = .ok (.aload_n 0, 1) := by decide +kernel
theorem dL_known_186 : decode cL_known 186 = .ok (.invokevirtual 99, 3) := by decide +kernel
theorem dL_known_189 : decode cL_known 189 = .ok (.iconst (-1), 1) := by decide +kernel
theorem dL_known_190 : decode cL_known 190 = .ok (.if_icmp .ne 13, 3) := by decide +kernel
theorem dL_known_193 : decode cL_known 193 = .ok (.aload_n 0, 1) := by decide +kernel
theorem dL_known_194 : decode cL_known 194 = .ok (.invokestatic 208, 3) := by decide +kernel
theorem dL_known_197 : decode cL_known 197 = .ok (.sipush (-3003), 3) := by decide +kernel
theorem dL_known_200 : decode cL_known 200 = .ok (.if_icmp .eq 5, 3) := by decide +kernel
theorem dL_known_203 : decode cL_known 203 = .ok (.iconst 0, 1) := by decide +kernel
theorem dL_known_204 : decode cL_known 204 = .ok (.ireturn, 1) := by decide +kernel
theorem dL_known_205 : decode cL_known 205 = .ok (.aload_n 0, 1) := by decide +kernel
theorem dL_known_206 : decode cL_known 206 = .ok (.iconst 5, 1) := by decide +kernel
theorem dL_known_207 : decode cL_known 207 = .ok (.invokestatic 127, 3) := by decide +kernel
theorem dL_known_210 : decode cL_known 210 = .ok (.ifCond .ne 84, 3) := by decide +kernel
theorem dL_known_213 : decode cL_known 213 = .ok (.aload_n 0, 1) := by decide +kernel
theorem dL_known_214 : decode cL_known 214 = .ok (.iconst 4, 1) := by decide +kernel
theorem dL_known_215 : decode cL_known 215 = .ok (.invokestatic 127, 3) := by decide +kernel
theorem dL_known_218 : decode cL_known 218 = .ok (.iconst 3, 1) := by decide +kernel
theorem dL_known_219 : decode cL_known 219 = .ok (.if_icmp .ne 75, 3) := by decide +kernel
theorem dL_known_222 : decode cL_known 222 = .ok (.aload_n 0, 1) := by decide +kernel
theorem dL_known_223 : decode cL_known 223 = .ok (.iconst 3, 1) := by decide +kernel
theorem dL_known_224 : decode cL_known 224 = .ok (.invokestatic 127, 3) := by decide +kernel
theorem dL_known_227 : decode cL_known 227 = .ok (.ifCond .ne 67, 3) := by decide +kernel
theorem dL_known_230 : decode cL_known 230 = .ok (.aload_n 0, 1) := by decide +kernel
theorem dL_known_231 : decode cL_known 231 = .ok (.bipush 9, 2) := by decide +kernel
theorem dL_known_233 : decode cL_known 233 = .ok (.invokestatic 127, 3) := by decide +kernel
theorem dL_known_236 : decode cL_known 236 = .ok (.sipush 203, 3) := by decide +kernel
theorem dL_known_239 : decode cL_known 239 = .ok (.if_icmp .ne 55, 3) := by decide +kernel
theorem dL_known_242 : decode cL_known 242 = .ok (.aload_n 0, 1) := by decide +kernel
theorem dL_known_243 : decode cL_known 243 = .ok (.bipush 8, 2) := by decide +kernel
theorem dL_known_245 : decode cL_known 245 = .ok (.invokestatic 127, 3) := by decide +kernel
theorem dL_known_248 : decode cL_known 248 = .ok (.bipush 106, 2) := by decide +kernel
theorem dL_known_250 : decode cL_known 250 = .ok (.if_icmp .ne 44, 3) := by decide +kernel
theorem dL_known_253 : decode cL_known 253 = .ok (.aload_n 0, 1) := by decide +kernel
theorem dL_known_254 : decode cL_known 254 = .ok (.bipush 7, 2) := by decide +kernel
theorem dL_known_256 : decode cL_known 256 = .ok (.invokestatic 127, 3) := by decide +kernel
theorem dL_known_259 : decode cL_known 259 = .ok (.sipush 309, 3) := by decide +kernel
theorem dL_known_262 : decode cL_known 262 = .ok (.if_icmp .ne 32, 3) := by decide +kernel
theorem dL_known_265 : decode cL_known 265 = .ok (.aload_n 0, 1) := by decide +kernel
theorem dL_known_266 : decode cL_known 266 = .ok (.bipush 6, 2) := by decide +kernel
theorem dL_known_268 : decode cL_known 268 = .ok (.invokestatic 127, 3) := by decide +kernel
theorem dL_known_271 : decode cL_known 271 = .ok (.bipush 12, 2) := by decide +kernel
theorem dL_known_273 : decode cL_known 273 = .ok (.if_icmp .ne 21, 3) := by decide +kernel
theorem dL_known_276 : decode cL_known 276 = .ok (.aload_n 0, 1) := by decide +kernel
theorem dL_known_277 : decode cL_known 277 = .ok (.bipush 12, 2) := by decide +kernel
theorem dL_known_279 : decode cL_known 279 = .ok (.invokestatic 127, 3) := by decide +kernel
theorem dL_known_282 : decode cL_known 282 = .ok (.ifCond .ne 12, 3) := by decide +kernel
theorem dL_known_285 : decode cL_known 285 = .ok (.aload_n 0, 1) := by decide +kernel
theorem dL_known_286 : decode cL_known 286 = .ok (.bipush 11, 2) := by decide +kernel
theorem dL_known_288 : decode cL_known 288 = .ok (.invokestatic 127, 3) := by decide +kernel
theorem dL_known_291 : decode cL_known 291 = .ok (.ifCond .eq 5, 3) := by decide +kernel
theorem dL_known_294 : decode cL_known 294 = .ok (.iconst 0, 1) := by decide +kernel
theorem dL_known_295 : decode cL_known 295 = .ok (.ireturn, 1) := by decide +kernel
theorem dL_known_296 : decode cL_known 296 = .ok (.aload_n 0, 1) := by decide +kernel
theorem dL_known_297 : decode cL_known 297 = .ok (.iconst 0, 1) := by decide +kernel
theorem dL_known_298 : decode cL_known 298 = .ok (.invokestatic 112, 3) := by decide +kernel
theorem dL_known_301 : decode cL_known 301 = .ok (.ifCond .ne 269, 3) := by decide +kernel
theorem dL_known_304 : decode cL_known 304 = .ok (.aload_n 0, 1) := by decide +kernel
theorem dL_known_305 : decode cL_known 305 = .ok (.iconst 0, 1) := by decide +kernel
theorem dL_known_306 : decode cL_known 306 = .ok (.invokestatic 112, 3) := by decide +kernel
theorem dL_known_309 : decode cL_known 309 = .ok (.sipush (-3003), 3) := by decide +kernel
theorem dL_known_312 : decode cL_known 312 = .ok (.if_icmp .ne 258, 3) := by decide +kernel
theorem dL_known_315 : decode cL_known 315 = .ok (.aload_n 0, 1) := by decide +kernel
theorem dL_known_316 : decode cL_known 316 = .ok (.iconst 0, 1) := by decide +kernel
theorem dL_known_317 : decode cL_known 317 = .ok (.bipush 7, 2) := by decide +kernel
theorem dL_known_319 : decode cL_known 319 = .ok (.invokestatic 90, 3) := by decide +kernel
theorem dL_known_322 : decode cL_known 322 = .ok (.bipush 7, 2) := by decide +kernel
theorem dL_known_324 : decode cL_known 324 = .ok (.if_icmp .ne 246, 3) := by decide +kernel
theorem dL_known_327 : decode cL_known 327 = .ok (.aload_n 0, 1) := by decide +kernel
theorem dL_known_328 : decode cL_known 328 = .ok (.iconst 0, 1) := by decide +kernel
theorem dL_known_329 : decode cL_known 329 = .ok (.iconst 4, 1) := by decide +kernel
theorem dL_known_330 : decode cL_known 330 = .ok (.invokestatic 90, 3) := by decide +kernel
theorem dL_known_333 : decode cL_known 333 = .ok (.bipush 20, 2) := by decide +kernel
theorem dL_known_335 : decode cL_known 335 = .ok (.if_icmp .ne 235, 3) := by decide +kernel
theorem dL_known_338 : decode cL_known 338 = .ok (.aload_n 0, 1) := by decide +kernel
theorem dL_known_339 : decode cL_known 339 = .ok (.iconst 0, 1) := by decide +kernel
theorem dL_known_340 : decode cL_known 340 = .ok (.invokestatic 93, 3) := by decide +kernel
theorem dL_known_343 : decode cL_known 343 = .ok (.iconst 3, 1) := by decide +kernel
theorem dL_known_344 : decode cL_known 344 = .ok (.if_icmp .ne 226, 3) := by decide +kernel
theorem dL_known_347 : decode cL_known 347 = .ok (.aload_n 0, 1) := by decide +kernel
theorem dL_known_348 : decode cL_known 348 = .ok (.invokevirtual 99, 3) := by decide +kernel
theorem dL_known_351 : decode cL_known 351 = .ok (.iconst (-1), 1) := by decide +kernel
theorem dL_known_352 : decode cL_known 352 = .ok (.if_icmp .ne 218, 3) := by decide +kernel
theorem dL_known_355 : decode cL_known 355 = .ok (.aload_n 0, 1) := by decide +kernel
theorem dL_known_356 : decode cL_known 356 = .ok (.iconst 0, 1) := by decide +kernel
theorem dL_known_357 : decode cL_known 357 = .ok (.invokestatic 124, 3) := by decide +kernel
theorem dL_known_360 : decode cL_known 360 = .ok (.sipush 202, 3) := by decide +kernel
theorem dL_known_363 : decode cL_known 363 = .ok (.if_icmp .ne 207, 3) := by decide +kernel
theorem dL_known_366 : decode cL_known 366 = .ok (.aload_n 0, 1) := by decide +kernel
theorem dL_known_367 : decode cL_known 367 = .ok (.iconst 0, 1) := by decide +kernel
theorem dL_known_368 : decode cL_known 368 = .ok (.invokestatic 137, 3) := by decide +kernel
theorem dL_known_371 : decode cL_known 371 = .ok (.iconst 5, 1) := by decide +kernel
theorem dL_known_372 : decode cL_known 372 = .ok (.if_icmp .ne 198, 3) := by decide +kernel
theorem dL_known_375 : decode cL_known 375 = .ok (.aload_n 0, 1) := by decide +kernel
theorem dL_known_376 : decode cL_known 376 = .ok (.sipush 500, 3) := by decide +kernel
theorem dL_known_379 : decode cL_known 379 = .ok (.invokestatic 137, 3) := by decide +kernel
theorem dL_known_382 : decode cL_known 382 = .ok (.iconst 2, 1) := by decide +kernel
theorem dL_known_383 : decode cL_known 383 = .ok (.if_icmp .ne 187, 3) := by decide +kernel
theorem dL_known_386 : decode cL_known 386 = .ok (.aload_n 0, 1) := by decide +kernel
theorem dL_known_387 : decode cL_known 387 = .ok (.invokevirtual 205, 3) := by decide +kernel
theorem dL_known_390 : decode cL_known 390 = .ok (.bipush 20, 2) := by decide +kernel
theorem dL_known_392 : decode cL_known 392 = .ok (.if_icmp .ne 178, 3) := by decide +kernel
theorem dL_known_395 : decode cL_known 395 = .ok (.aload_n 0, 1) := by decide +kernel
theorem dL_known_396 : decode cL_known 396 = .ok (.iconst 0, 1) := by decide +kernel
theorem dL_known_397 : decode cL_known 397 = .ok (.invokestatic 115, 3) := by decide +kernel
theorem dL_known_400 : decode cL_known 400 = .ok (.sipush (-3003), 3) := by decide +kernel
theorem dL_known_403 : decode cL_known 403 = .ok (.if_icmp .ne 167, 3) := by decide +kernel
theorem dL_known_406 : decode cL_known 406 = .ok (.aload_n 0, 1) := by decide +kernel
theorem dL_known_407 : decode cL_known 407 = .ok (.iconst 4, 1) := by decide +kernel
theorem dL_known_408 : decode cL_known 408 = .ok (.invokestatic 134, 3) := by decide +kernel
theorem dL_known_411 : decode cL_known 411 = .ok (.ifCond .ne 159, 3) := by decide +kernel
theorem dL_known_414 : decode cL_known 414 = .ok (.aload_n 0, 1) := by decide +kernel
theorem dL_known_415 : decode cL_known 415 = .ok (.iconst 0, 1) := by decide +kernel
theorem dL_known_416 : decode cL_known 416 = .ok (.bipush 6, 2) := by decide +kernel
theorem dL_known_418 : decode cL_known 418 = .ok (.invokestatic 90, 3) := by decide +kernel
theorem dL_known_421 : decode cL_known 421 = .ok (.iconst 4, 1) := by decide +kernel
theorem dL_known_422 : decode cL_known 422 = .ok (.if_icmp .ne 148, 3) := by decide +kernel
theorem dL_known_425 : decode cL_known 425 = .ok (.aload_n 0, 1) := by decide +kernel
theorem dL_known_426 : decode cL_known 426 = .ok (.iconst 0, 1) := by decide +kernel
theorem dL_known_427 : decode cL_known 427 = .ok (.invokestatic 93, 3) := by decide +kernel
theorem dL_known_430 : decode cL_known 430 = .ok (.iconst 5, 1) := by decide +kernel
theorem dL_known_431 : decode cL_known 431 = .ok (.if_icmp .ne 139, 3) := by decide +kernel
theorem dL_known_434 : decode cL_known 434 = .ok (.aload_n 0, 1) := by decide +kernel
theorem dL_known_435 : decode cL_known 435 = .ok (.iconst 1, 1) := by decide +kernel
theorem dL_known_436 : decode cL_known 436 = .ok (.invokestatic 134, 3) := by decide +kernel
theorem dL_known_439 : decode cL_known 439 = .ok (.iconst 1, 1) := by decide +kernel
theorem dL_known_440 : decode cL_known 440 = .ok (.if_icmp .ne 130, 3) := by decide +kernel
theorem dL_known_443 : decode cL_known 443 = .ok (.aload_n 0, 1) := by decide +kernel
theorem dL_known_444 : decode cL_known 444 = .ok (.iconst 0, 1) := by decide +kernel
theorem dL_known_445 : decode cL_known 445 = .ok (.iconst 2, 1) := by decide +kernel
theorem dL_known_446 : decode cL_known 446 = .ok (.invokestatic 90, 3) := by decide +kernel
theorem dL_known_449 : decode cL_known 449 = .ok (.bipush 25, 2) := by decide +kernel
theorem dL_known_451 : decode cL_known 451 = .ok (.if_icmp .ne 119, 3) := by decide +kernel
theorem dL_known_454 : decode cL_known 454 = .ok (.aload_n 0, 1) := by decide +kernel
theorem dL_known_455 : decode cL_known 455 = .ok (.iconst 0, 1) := by decide +kernel
theorem dL_known_456 : decode cL_known 456 = .ok (.bipush 6, 2) := by decide +kernel
theorem dL_known_458 : decode cL_known 458 = .ok (.invokestatic 90, 3) := by decide +kernel
theorem dL_known_461 : decode cL_known 461 = .ok (.ifCond .ne 109, 3) := by decide +kernel
theorem dL_known_464 : decode cL_known 464 = .ok (.aload_n 0, 1) := by decide +kernel
theorem dL_known_465 : decode cL_known 465 = .ok (.iconst 0, 1) := by decide +kernel
theorem dL_known_466 : decode cL_known 466 = .ok (.invokestatic 93, 3) := by decide +kernel
theorem dL_known_469 : decode cL_known 469 = .ok (.ifCond .ne 101, 3) := by decide +kernel
theorem dL_known_472 : decode cL_known 472 = .ok (.aload_n 0, 1) := by decide +kernel
theorem dL_known_473 : decode cL_known 473 = .ok (.iconst 0, 1) := by decide +kernel
theorem dL_known_474 : decode cL_known 474 = .ok (.iconst 0, 1) := by decide +kernel
theorem dL_known_475 : decode cL_known 475 = .ok (.invokestatic 96, 3) := by decide +kernel
theorem dL_known_478 : decode cL_known 478 = .ok (.iconst 4, 1) := by decide +kernel
theorem dL_known_479 : decode cL_known 479 = .ok (.if_icmp .ne 91, 3) := by decide +kernel
theorem dL_known_482 : decode cL_known 482 = .ok (.aload_n 0, 1) := by decide +kernel
theorem dL_known_483 : decode cL_known 483 = .ok (.iconst 0, 1) := by decide +kernel
theorem dL_known_484 : decode cL_known 484 = .ok (.iconst 1, 1) := by decide +kernel
theorem dL_known_485 : decode cL_known 485 = .ok (.invokestatic 96, 3) := by decide +kernel
theorem dL_known_488 : decode cL_known 488 = .ok (.ifCond .ne 82, 3) := by decide +kernel
theorem dL_known_491 : decode cL_known 491 = .ok (.aload_n 0, 1) := by decide +kernel
theorem dL_known_492 : decode cL_known 492 = .ok (.bipush 8, 2) := by decide +kernel
theorem dL_known_494 : decode cL_known 494 = .ok (.invokestatic 73, 3) := by decide +kernel
theorem dL_known_497 : decode cL_known 497 = .ok (.iconst 1, 1) := by decide +kernel
theorem dL_known_498 : decode cL_known 498 = .ok (.if_icmp .ne 72, 3) := by decide +kernel
theorem dL_known_501 : decode cL_known 501 = .ok (.aload_n 0, 1) := by decide +kernel
theorem dL_known_502 : decode cL_known 502 = .ok (.bipush 9, 2) := by decide +kernel
theorem dL_known_504 : decode cL_known 504 = .ok (.invokestatic 73, 3) := by decide +kernel
theorem dL_known_507 : decode cL_known 507 = .ok (.iconst 4, 1) := by decide +kernel
theorem dL_known_508 : decode cL_known 508 = .ok (.if_icmp .ne 62, 3) := by decide +kernel
theorem dL_known_511 : decode cL_known 511 = .ok (.aload_n 0, 1) := by decide +kernel
theorem dL_known_512 : decode cL_known 512 = .ok (.iconst 1, 1) := by decide +kernel
theorem dL_known_513 : decode cL_known 513 = .ok (.invokestatic 112, 3) := by decide +kernel
theorem dL_known_516 : decode cL_known 516 = .ok (.sipush (-3003), 3) := by decide +kernel
theorem dL_known_519 : decode cL_known 519 = .ok (.if_icmp .ne 51, 3) := by decide +kernel
theorem dL_known_522 : decode cL_known 522 = .ok (.aload_n 0, 1) := by decide +kernel
theorem dL_known_523 : decode cL_known 523 = .ok (.bipush 20, 2) := by decide +kernel
theorem dL_known_525 : decode cL_known 525 = .ok (.invokestatic 134, 3) := by decide +kernel
theorem dL_known_528 : decode cL_known 528 = .ok (.ifCond .ne 42, 3) := by decide +kernel
theorem dL_known_531 : decode cL_known 531 = .ok (.aload_n 0, 1) := by decide +kernel
theorem dL_known_532 : decode cL_known 532 = .ok (.iconst 0, 1) := by decide +kernel
theorem dL_known_533 : decode cL_known 533 = .ok (.iconst 0, 1) := by decide +kernel
theorem dL_known_534 : decode cL_known 534 = .ok (.invokestatic 90, 3) := by decide +kernel
theorem dL_known_537 : decode cL_known 537 = .ok (.iconst 1, 1) := by decide +kernel
theorem dL_known_538 : decode cL_known 538 = .ok (.if_icmp .ne 32, 3) := by decide +kernel
theorem dL_known_541 : decode cL_known 541 = .ok (.aload_n 0, 1) := by decide +kernel
theorem dL_known_542 : decode cL_known 542 = .ok (.iconst 0, 1) := by decide +kernel
theorem dL_known_543 : decode cL_known 543 = .ok (.bipush 8, 2) := by decide +kernel
theorem dL_known_545 : decode cL_known 545 = .ok (.invokestatic 90, 3) := by decide +kernel
theorem dL_known_548 : decode cL_known 548 = .ok (.iconst 1, 1) := by decide +kernel
theorem dL_known_549 : decode cL_known 549 = .ok (.if_icmp .ne 21, 3) := by decide +kernel
theorem dL_known_552 : decode cL_known 552 = .ok (.aload_n 0, 1) := by decide +kernel
theorem dL_known_553 : decode cL_known 553 = .ok (.iconst 1, 1) := by decide +kernel
theorem dL_known_554 : decode cL_known 554 = .ok (.iconst 3, 1) := by decide +kernel
theorem dL_known_555 : decode cL_known 555 = .ok (.invokestatic 87, 3) := by decide +kernel
theorem dL_known_558 : decode cL_known 558 = .ok (.ifCond .ne 12, 3) := by decide +kernel
theorem dL_known_561 : decode cL_known 561 = .ok (.aload_n 0, 1) := by decide +kernel
theorem dL_known_562 : decode cL_known 562 = .ok (.iconst 1, 1) := by decide +kernel
theorem dL_known_563 : decode cL_known 563 = .ok (.iconst 3, 1) := by decide +kernel
theorem dL_known_564 : decode cL_known 564 = .ok (.invokestatic 83, 3) := by decide +kernel
theorem dL_known_567 : decode cL_known 567 = .ok (.ifCond .eq 5, 3) := by decide +kernel
theorem dL_known_570 : decode cL_known 570 = .ok (.iconst 0, 1) := by decide +kernel
theorem dL_known_571 : decode cL_known 571 = .ok (.ireturn, 1) := by decide +kernel
theorem dL_known_572 : decode cL_known 572 = .ok (.aload_n 0, 1) := by decide +kernel
theorem dL_known_573 : decode cL_known 573 = .ok (.bipush 79, 2) := by decide +kernel
theorem dL_known_575 : decode cL_known 575 = .ok (.invokestatic 134, 3) := by decide +kernel
theorem dL_known_578 : decode cL_known 578 = .ok (.ifCond .ne 89, 3) := by decide +kernel
theorem dL_known_581 : decode cL_known 581 = .ok (.aload_n 0, 1) := by decide +kernel
theorem dL_known_582 : decode cL_known 582 = .ok (.iconst 0, 1) := by decide +kernel
theorem dL_known_583 : decode cL_known 583 = .ok (.iconst 0, 1) := by decide +kernel
theorem dL_known_584 : decode cL_known 584 = .ok (.invokestatic 90, 3) := by decide +kernel
theorem dL_known_587 : decode cL_known 587 = .ok (.iconst 4, 1) := by decide +kernel
theorem dL_known_588 : decode cL_known 588 = .ok (.if_icmp .ne 79, 3) := by decide +kernel
theorem dL_known_591 : decode cL_known 591 = .ok (.aload_n 0, 1) := by decide +kernel
theorem dL_known_592 : decode cL_known 592 = .ok (.iconst 0, 1) := by decide +kernel
theorem dL_known_593 : decode cL_known 593 = .ok (.iconst 3, 1) := by decide +kernel
theorem dL_known_594 : decode cL_known 594 = .ok (.invokestatic 90, 3) := by decide +kernel
theorem dL_known_597 : decode cL_known 597 = .ok (.bipush 95, 2) := by decide +kernel
theorem dL_known_599 : decode cL_known 599 = .ok (.if_icmp .ne 68, 3) := by decide +kernel
theorem dL_known_602 : decode cL_known 602 = .ok (.aload_n 0, 1) := by decide +kernel
theorem dL_known_603 : decode cL_known 603 = .ok (.iconst 1, 1) := by decide +kernel
theorem dL_known_604 : decode cL_known 604 = .ok (.invokestatic 134, 3) := by decide +kernel
theorem dL_known_607 : decode cL_known 607 = .ok (.ifCond .ne 60, 3) := by decide +kernel
theorem dL_known_610 : decode cL_known 610 = .ok (.aload_n 0, 1) := by decide +kernel
theorem dL_known_611 : decode cL_known 611 = .ok (.iconst 0, 1) := by decide +kernel
theorem dL_known_612 : decode cL_known 612 = .ok (.iconst 0, 1) := by decide +kernel
theorem dL_known_613 : decode cL_known 613 = .ok (.invokestatic 90, 3) := by decide +kernel
theorem dL_known_616 : decode cL_known 616 = .ok (.iconst 5, 1) := by decide +kernel
theorem dL_known_617 : decode cL_known 617 = .ok (.if_icmp .ne 50, 3) := by decide +kernel
theorem dL_known_620 : decode cL_known 620 = .ok (.aload_n 0, 1) := by decide +kernel
theorem dL_known_621 : decode cL_known 621 = .ok (.iconst 0, 1) := by decide +kernel
theorem dL_known_622 : decode cL_known 622 = .ok (.iconst 5, 1) := by decide +kernel
theorem dL_known_623 : decode cL_known 623 = .ok (.invokestatic 90, 3) := by decide +kernel
theorem dL_known_626 : decode cL_known 626 = .ok (.iconst 1, 1) := by decide +kernel
theorem dL_known_627 : decode cL_known 627 = .ok (.if_icmp .ne 40, 3) := by decide +kernel
theorem dL_known_630 : decode cL_known 630 = .ok (.aload_n 0, 1) := by decide +kernel
theorem dL_known_631 : decode cL_known 631 = .ok (.iconst 0, 1) := by decide +kernel
theorem dL_known_632 : decode cL_known 632 = .ok (.invokestatic 93, 3) := by decide +kernel
theorem dL_known_635 : decode cL_known 635 = .ok (.iconst 5, 1) := by decide +kernel
theorem dL_known_636 : decode cL_known 636 = .ok (.if_icmp .ne 31, 3) := by decide +kernel
theorem dL_known_639 : decode cL_known 639 = .ok (.aload_n 0, 1) := by decide +kernel
theorem dL_known_640 : decode cL_known 640 = .ok (.iconst 3, 1) := by decide +kernel
theorem dL_known_641 : decode cL_known 641 = .ok (.invokestatic 73, 3) := by decide +kernel
theorem dL_known_644 : decode cL_known 644 = .ok (.bipush 105, 2) := by decide +kernel
theorem dL_known_646 : decode cL_known 646 = .ok (.if_icmp .ne 21, 3) := by decide +kernel
theorem dL_known_649 : decode cL_known 649 = .ok (.aload_n 0, 1) := by decide +kernel
theorem dL_known_650 : decode cL_known 650 = .ok (.iconst 0, 1) := by decide +kernel
theorem dL_known_651 : decode cL_known 651 = .ok (.bipush 8, 2) := by decide +kernel
theorem dL_known_653 : decode cL_known 653 = .ok (.invokestatic 90, 3) := by decide +kernel
theorem dL_known_656 : decode cL_known 656 = .ok (.iconst 5, 1) := by decide +kernel
theorem dL_known_657 : decode cL_known 657 = .ok (.if_icmp .ne 10, 3) := by decide +kernel
theorem dL_known_660 : decode cL_known 660 = .ok (.aload_n 0, 1) := by decide +kernel
theorem dL_known_661 : decode cL_known 661 = .ok (.invokestatic 198, 3) := by decide +kernel
theorem dL_known_664 : decode cL_known 664 = .ok (.ifCond .ne 5, 3) := by decide +kernel
theorem dL_known_667 : decode cL_known 667 = .ok (.iconst 0, 1) := by decide +kernel
theorem dL_known_668 : decode cL_known 668 = .ok (.ireturn, 1) := by decide +kernel
theorem dL_known_669 : decode cL_known 669 = .ok (.aload_n 0, 1) := by decide +kernel
theorem dL_known_670 : decode cL_known 670 = .ok (.bipush 27, 2) := by decide +kernel
theorem dL_known_672 : decode cL_known 672 = .ok (.invokestatic 134, 3) := by decide +kernel
theorem dL_known_675 : decode cL_known 675 = .ok (.ifCond .ne 171, 3) := by decide +kernel
theorem dL_known_678 : decode cL_known 678 = .ok (.aload_n 0, 1) := by decide +kernel
theorem dL_known_679 : decode cL_known 679 = .ok (.iconst 0, 1) := by decide +kernel
theorem dL_known_680 : decode cL_known 680 = .ok (.iconst 0, 1) := by decide +kernel
theorem dL_known_681 : decode cL_known 681 = .ok (.invokestatic 90, 3) := by decide +kernel
theorem dL_known_684 : decode cL_known 684 = .ok (.bipush 7, 2) := by decide +kernel
theorem dL_known_686 : decode cL_known 686 = .ok (.if_icmp .ne 160, 3) := by decide +kernel
theorem dL_known_689 : decode cL_known 689 = .ok (.aload_n 0, 1) := by decide +kernel
theorem dL_known_690 : decode cL_known 690 = .ok (.iconst 0, 1) := by decide +kernel
theorem dL_known_691 : decode cL_known 691 = .ok (.iconst 2, 1) := by decide +kernel
theorem dL_known_692 : decode cL_known 692 = .ok (.invokestatic 90, 3) := by decide +kernel
theorem dL_known_695 : decode cL_known 695 = .ok (.sipush 611, 3) := by decide +kernel
theorem dL_known_698 : decode cL_known 698 = .ok (.if_icmp .ne 148, 3) := by decide +kernel
theorem dL_known_701 : decode cL_known 701 = .ok (.aload_n 0, 1) := by decide +kernel
theorem dL_known_702 : decode cL_known 702 = .ok (.iconst 0, 1) := by decide +kernel
theorem dL_known_703 : decode cL_known 703 = .ok (.iconst 3, 1) := by decide +kernel
theorem dL_known_704 : decode cL_known 704 = .ok (.invokestatic 90, 3) := by decide +kernel
theorem dL_known_707 : decode cL_known 707 = .ok (.iconst 2, 1) := by decide +kernel
theorem dL_known_708 : decode cL_known 708 = .ok (.if_icmp .ne 138, 3) := by decide +kernel
theorem dL_known_711 : decode cL_known 711 = .ok (.aload_n 0, 1) := by decide +kernel
theorem dL_known_712 : decode cL_known 712 = .ok (.iconst 0, 1) := by decide +kernel
theorem dL_known_713 : decode cL_known 713 = .ok (.iconst 4, 1) := by decide +kernel
theorem dL_known_714 : decode cL_known 714 = .ok (.invokestatic 90, 3) := by decide +kernel
theorem dL_known_717 : decode cL_known 717 = .ok (.bipush 21, 2) := by decide +kernel
theorem dL_known_719 : decode cL_known 719 = .ok (.if_icmp .ne 127, 3) := by decide +kernel
theorem dL_known_722 : decode cL_known 722 = .ok (.aload_n 0, 1) := by decide +kernel
theorem dL_known_723 : decode cL_known 723 = .ok (.iconst 0, 1) := by decide +kernel
theorem dL_known_724 : decode cL_known 724 = .ok (.bipush 7, 2) := by decide +kernel
theorem dL_known_726 : decode cL_known 726 = .ok (.invokestatic 90, 3) := by decide +kernel
theorem dL_known_729 : decode cL_known 729 = .ok (.bipush 6, 2) := by decide +kernel
theorem dL_known_731 : decode cL_known 731 = .ok (.if_icmp .ne 115, 3) := by decide +kernel
theorem dL_known_734 : decode cL_known 734 = .ok (.aload_n 0, 1) := by decide +kernel
theorem dL_known_735 : decode cL_known 735 = .ok (.bipush 14, 2) := by decide +kernel
theorem dL_known_737 : decode cL_known 737 = .ok (.invokestatic 134, 3) := by decide +kernel
theorem dL_known_740 : decode cL_known 740 = .ok (.ifCond .ne 106, 3) := by decide +kernel
theorem dL_known_743 : decode cL_known 743 = .ok (.aload_n 0, 1) := by decide +kernel
theorem dL_known_744 : decode cL_known 744 = .ok (.iconst 0, 1) := by decide +kernel
theorem dL_known_745 : decode cL_known 745 = .ok (.iconst 0, 1) := by decide +kernel
theorem dL_known_746 : decode cL_known 746 = .ok (.invokestatic 90, 3) := by decide +kernel
theorem dL_known_749 : decode cL_known 749 = .ok (.bipush 10, 2) := by decide +kernel
theorem dL_known_751 : decode cL_known 751 = .ok (.if_icmp .ne 95, 3) := by decide +kernel
theorem dL_known_754 : decode cL_known 754 = .ok (.aload_n 0, 1) := by decide +kernel
theorem dL_known_755 : decode cL_known 755 = .ok (.iconst 0, 1) := by decide +kernel
theorem dL_known_756 : decode cL_known 756 = .ok (.iconst 5, 1) := by decide +kernel
theorem dL_known_757 : decode cL_known 757 = .ok (.invokestatic 90, 3) := by decide +kernel
theorem dL_known_760 : decode cL_known 760 = .ok (.iconst 1, 1) := by decide +kernel
theorem dL_known_761 : decode cL_known 761 = .ok (.if_icmp .ne 85, 3) := by decide +kernel
theorem dL_known_764 : decode cL_known 764 = .ok (.aload_n 0, 1) := by decide +kernel
theorem dL_known_765 : decode cL_known 765 = .ok (.iconst 0, 1) := by decide +kernel
theorem dL_known_766 : decode cL_known 766 = .ok (.iconst 4, 1) := by decide +kernel
theorem dL_known_767 : decode cL_known 767 = .ok (.invokestatic 90, 3) := by decide +kernel
theorem dL_known_770 : decode cL_known 770 = .ok (.bipush 33, 2) := by decide +kernel
theorem dL_known_772 : decode cL_known 772 = .ok (.if_icmp .ne 74, 3) := by decide +kernel
theorem dL_known_775 : decode cL_known 775 = .ok (.aload_n 0, 1) := by decide +kernel
theorem dL_known_776 : decode cL_known 776 = .ok (.iconst 0, 1) := by decide +kernel
theorem dL_known_777 : decode cL_known 777 = .ok (.bipush 8, 2) := by decide +kernel
theorem dL_known_779 : decode cL_known 779 = .ok (.invokestatic 90, 3) := by decide +kernel
theorem dL_known_782 : decode cL_known 782 = .ok (.bipush 10, 2) := by decide +kernel
theorem dL_known_784 : decode cL_known 784 = .ok (.if_icmp .ne 62, 3) := by decide +kernel
theorem dL_known_787 : decode cL_known 787 = .ok (.aload_n 0, 1) := by decide +kernel
theorem dL_known_788 : decode cL_known 788 = .ok (.iconst 2, 1) := by decide +kernel
theorem dL_known_789 : decode cL_known 789 = .ok (.iconst 4, 1) := by decide +kernel
theorem dL_known_790 : decode cL_known 790 = .ok (.invokestatic 87, 3) := by decide +kernel
theorem dL_known_793 : decode cL_known 793 = .ok (.ifCond .ne 53, 3) := by decide +kernel
theorem dL_known_796 : decode cL_known 796 = .ok (.aload_n 0, 1) := by decide +kernel
theorem dL_known_797 : decode cL_known 797 = .ok (.bipush 56, 2) := by decide +kernel
theorem dL_known_799 : decode cL_known 799 = .ok (.invokestatic 134, 3) := by decide +kernel
theorem dL_known_802 : decode cL_known 802 = .ok (.ifCond .ne 44, 3) := by decide +kernel
theorem dL_known_805 : decode cL_known 805 = .ok (.aload_n 0, 1) := by decide +kernel
theorem dL_known_806 : decode cL_known 806 = .ok (.iconst 0, 1) := by decide +kernel
theorem dL_known_807 : decode cL_known 807 = .ok (.iconst 0, 1) := by decide +kernel
theorem dL_known_808 : decode cL_known 808 = .ok (.invokestatic 90, 3) := by decide +kernel
theorem dL_known_811 : decode cL_known 811 = .ok (.ifCond .ne 35, 3) := by decide +kernel
theorem dL_known_814 : decode cL_known 814 = .ok (.aload_n 0, 1) := by decide +kernel
theorem dL_known_815 : decode cL_known 815 = .ok (.iconst 0, 1) := by decide +kernel
theorem dL_known_816 : decode cL_known 816 = .ok (.bipush 8, 2) := by decide +kernel
theorem dL_known_818 : decode cL_known 818 = .ok (.invokestatic 90, 3) := by decide +kernel
theorem dL_known_821 : decode cL_known 821 = .ok (.bipush 14, 2) := by decide +kernel
theorem dL_known_823 : decode cL_known 823 = .ok (.if_icmp .ne 23, 3) := by decide +kernel
theorem dL_known_826 : decode cL_known 826 = .ok (.aload_n 0, 1) := by decide +kernel
theorem dL_known_827 : decode cL_known 827 = .ok (.iconst 0, 1) := by decide +kernel
theorem dL_known_828 : decode cL_known 828 = .ok (.bipush 9, 2) := by decide +kernel
theorem dL_known_830 : decode cL_known 830 = .ok (.invokestatic 90, 3) := by decide +kernel
theorem dL_known_833 : decode cL_known 833 = .ok (.iconst 1, 1) := by decide +kernel
theorem dL_known_834 : decode cL_known 834 = .ok (.if_icmp .ne 12, 3) := by decide +kernel
theorem dL_known_837 : decode cL_known 837 = .ok (.aload_n 0, 1) := by decide +kernel
theorem dL_known_838 : decode cL_known 838 = .ok (.iconst 0, 1) := by decide +kernel
theorem dL_known_839 : decode cL_known 839 = .ok (.iconst 4, 1) := by decide +kernel
theorem dL_known_840 : decode cL_known 840 = .ok (.invokestatic 201, 3) := by decide +kernel
theorem dL_known_843 : decode cL_known 843 = .ok (.ifCond .ne 5, 3) := by decide +kernel
theorem dL_known_846 : decode cL_known 846 = .ok (.iconst 0, 1) := by decide +kernel
theorem dL_known_847 : decode cL_known 847 = .ok (.ireturn, 1) := by decide +kernel
theorem dL_known_848 : decode cL_known 848 = .ok (.aload_n 0, 1) := by decide +kernel
theorem dL_known_849 : decode cL_known 849 = .ok (.iconst 5, 1) := by decide +kernel
theorem dL_known_850 : decode cL_known 850 = .ok (.bipush 9, 2) := by decide +kernel
theorem dL_known_852 : decode cL_known 852 = .ok (.invokestatic 121, 3) := by decide +kernel
theorem dL_known_855 : decode cL_known 855 = .ok (.bipush 7, 2) := by decide +kernel
theorem dL_known_857 : decode cL_known 857 = .ok (.if_icmp .ne 171, 3) := by decide +kernel
theorem dL_known_860 : decode cL_known 860 = .ok (.aload_n 0, 1) := by decide +kernel
theorem dL_known_861 : decode cL_known 861 = .ok (.iconst 4, 1) := by decide +kernel
theorem dL_known_862 : decode cL_known 862 = .ok (.invokestatic 127, 3) := by decide +kernel
theorem dL_known_865 : decode cL_known 865 = .ok (.sipush 203, 3) := by decide +kernel
theorem dL_known_868 : decode cL_known 868 = .ok (.if_icmp .ne 160, 3) := by decide +kernel
theorem dL_known_871 : decode cL_known 871 = .ok (.aload_n 0, 1) := by decide +kernel
theorem dL_known_872 : decode cL_known 872 = .ok (.iconst 3, 1) := by decide +kernel
theorem dL_known_873 : decode cL_known 873 = .ok (.invokestatic 127, 3) := by decide +kernel
theorem dL_known_876 : decode cL_known 876 = .ok (.iconst (-1), 1) := by decide +kernel
theorem dL_known_877 : decode cL_known 877 = .ok (.if_icmp .ne 151, 3) := by decide +kernel
theorem dL_known_880 : decode cL_known 880 = .ok (.aload_n 0, 1) := by decide +kernel
theorem dL_known_881 : decode cL_known 881 = .ok (.invokevirtual 99, 3) := by decide +kernel
theorem dL_known_884 : decode cL_known 884 = .ok (.bipush 105, 2) := by decide +kernel
theorem dL_known_886 : decode cL_known 886 = .ok (.if_icmp .ne 142, 3) := by decide +kernel
theorem dL_known_889 : decode cL_known 889 = .ok (.aload_n 0, 1) := by decide +kernel
theorem dL_known_890 : decode cL_known 890 = .ok (.iconst 0, 1) := by decide +kernel
theorem dL_known_891 : decode cL_known 891 = .ok (.invokestatic 124, 3) := by decide +kernel
theorem dL_known_894 : decode cL_known 894 = .ok (.iconst (-1), 1) := by decide +kernel
theorem dL_known_895 : decode cL_known 895 = .ok (.if_icmp .ne 133, 3) := by decide +kernel
theorem dL_known_898 : decode cL_known 898 = .ok (.aload_n 0, 1) := by decide +kernel
theorem dL_known_899 : decode cL_known 899 = .ok (.invokevirtual 205, 3) := by decide +kernel
theorem dL_known_902 : decode cL_known 902 = .ok (.iconst (-1), 1) := by decide +kernel
theorem dL_known_903 : decode cL_known 903 = .ok (.if_icmp .ne 125, 3) := by decide +kernel
theorem dL_known_906 : decode cL_known 906 = .ok (.aload_n 0, 1) := by decide +kernel
theorem dL_known_907 : decode cL_known 907 = .ok (.bipush 104, 2) := by decide +kernel
theorem dL_known_909 : decode cL_known 909 = .ok (.invokestatic 134, 3) := by decide +kernel
theorem dL_known_912 : decode cL_known 912 = .ok (.iconst 1, 1) := by decide +kernel
theorem dL_known_913 : decode cL_known 913 = .ok (.if_icmp .ne 115, 3) := by decide +kernel
theorem dL_known_916 : decode cL_known 916 = .ok (.aload_n 0, 1) := by decide +kernel
theorem dL_known_917 : decode cL_known 917 = .ok (.bipush 10, 2) := by decide +kernel
theorem dL_known_919 : decode cL_known 919 = .ok (.invokestatic 73, 3) := by decide +kernel
theorem dL_known_922 : decode cL_known 922 = .ok (.ifCond .ne 106, 3) := by decide +kernel
theorem dL_known_925 : decode cL_known 925 = .ok (.aload_n 0, 1) := by decide +kernel
theorem dL_known_926 : decode cL_known 926 = .ok (.iconst 1, 1) := by decide +kernel
theorem dL_known_927 : decode cL_known 927 = .ok (.invokestatic 134, 3) := by decide +kernel
theorem dL_known_930 : decode cL_known 930 = .ok (.ifCond .ne 98, 3) := by decide +kernel
theorem dL_known_933 : decode cL_known 933 = .ok (.aload_n 0, 1) := by decide +kernel
theorem dL_known_934 : decode cL_known 934 = .ok (.iconst 0, 1) := by decide +kernel
theorem dL_known_935 : decode cL_known 935 = .ok (.iconst 5, 1) := by decide +kernel
theorem dL_known_936 : decode cL_known 936 = .ok (.invokestatic 90, 3) := by decide +kernel
theorem dL_known_939 : decode cL_known 939 = .ok (.iconst 2, 1) := by decide +kernel
theorem dL_known_940 : decode cL_known 940 = .ok (.if_icmp .ne 88, 3) := by decide +kernel
theorem dL_known_943 : decode cL_known 943 = .ok (.aload_n 0, 1) := by decide +kernel
theorem dL_known_944 : decode cL_known 944 = .ok (.iconst 0, 1) := by decide +kernel
theorem dL_known_945 : decode cL_known 945 = .ok (.iconst 0, 1) := by decide +kernel
theorem dL_known_946 : decode cL_known 946 = .ok (.invokestatic 90, 3) := by decide +kernel
theorem dL_known_949 : decode cL_known 949 = .ok (.iconst 4, 1) := by decide +kernel
theorem dL_known_950 : decode cL_known 950 = .ok (.if_icmp .ne 78, 3) := by decide +kernel
theorem dL_known_953 : decode cL_known 953 = .ok (.aload_n 0, 1) := by decide +kernel
theorem dL_known_954 : decode cL_known 954 = .ok (.iconst 0, 1) := by decide +kernel
theorem dL_known_955 : decode cL_known 955 = .ok (.invokestatic 93, 3) := by decide +kernel
theorem dL_known_958 : decode cL_known 958 = .ok (.iconst 1, 1) := by decide +kernel
theorem dL_known_959 : decode cL_known 959 = .ok (.if_icmp .ne 69, 3) := by decide +kernel
theorem dL_known_962 : decode cL_known 962 = .ok (.aload_n 0, 1) := by decide +kernel
theorem dL_known_963 : decode cL_known 963 = .ok (.bipush 10, 2) := by decide +kernel
theorem dL_known_965 : decode cL_known 965 = .ok (.invokestatic 73, 3) := by decide +kernel
theorem dL_known_968 : decode cL_known 968 = .ok (.iconst 1, 1) := by decide +kernel
theorem dL_known_969 : decode cL_known 969 = .ok (.if_icmp .ne 59, 3) := by decide +kernel
theorem dL_known_972 : decode cL_known 972 = .ok (.aload_n 0, 1) := by decide +kernel
theorem dL_known_973 : decode cL_known 973 = .ok (.iconst 0, 1) := by decide +kernel
theorem dL_known_974 : decode cL_known 974 = .ok (.invokestatic 115, 3) := by decide +kernel
theorem dL_known_977 : decode cL_known 977 = .ok (.iconst 4, 1) := by decide +kernel
theorem dL_known_978 : decode cL_known 978 = .ok (.if_icmp .ne 50, 3) := by decide +kernel
theorem dL_known_981 : decode cL_known 981 = .ok (.aload_n 0, 1) := by decide +kernel
theorem dL_known_982 : decode cL_known 982 = .ok (.iconst 0, 1) := by decide +kernel
theorem dL_known_983 : decode cL_known 983 = .ok (.iconst 0, 1) := by decide +kernel
theorem dL_known_984 : decode cL_known 984 = .ok (.invokestatic 90, 3) := by decide +kernel
theorem dL_known_987 : decode cL_known 987 = .ok (.iconst 5, 1) := by decide +kernel
theorem dL_known_988 : decode cL_known 988 = .ok (.if_icmp .ne 40, 3) := by decide +kernel
theorem dL_known_991 : decode cL_known 991 = .ok (.aload_n 0, 1) := by decide +kernel
theorem dL_known_992 : decode cL_known 992 = .ok (.iconst 0, 1) := by decide +kernel
theorem dL_known_993 : decode cL_known 993 = .ok (.iconst 5, 1) := by decide +kernel
theorem dL_known_994 : decode cL_known 994 = .ok (.invokestatic 90, 3) := by decide +kernel
theorem dL_known_997 : decode cL_known 997 = .ok (.iconst 1, 1) := by decide +kernel
theorem dL_known_998 : decode cL_known 998 = .ok (.if_icmp .ne 30, 3) := by decide +kernel
theorem dL_known_1001 : decode cL_known 1001 = .ok (.aload_n 0, 1) := by decide +kernel
theorem dL_known_1002 : decode cL_known 1002 = .ok (.iconst 0, 1) := by decide +kernel
theorem dL_known_1003 : decode cL_known 1003 = .ok (.bipush 8, 2) := by decide +kernel
theorem dL_known_1005 : decode cL_known 1005 = .ok (.invokestatic 90, 3) := by decide +kernel
theorem dL_known_1008 : decode cL_known 1008 = .ok (.bipush 18, 2) := by decide +kernel
theorem dL_known_1010 : decode cL_known 1010 = .ok (.if_icmp .ne 18, 3) := by decide +kernel
theorem dL_known_1013 : decode cL_known 1013 = .ok (.aload_n 0, 1) := by decide +kernel
theorem dL_known_1014 : decode cL_known 1014 = .ok (.invokestatic 208, 3) := by decide +kernel
theorem dL_known_1017 : decode cL_known 1017 = .ok (.ifCond .ne 11, 3) := by decide +kernel
theorem dL_known_1020 : decode cL_known 1020 = .ok (.aload_n 0, 1) := by decide +kernel
theorem dL_known_1021 : decode cL_known 1021 = .ok (.iconst 2, 1) := by decide +kernel
theorem dL_known_1022 : decode cL_known 1022 = .ok (.invokestatic 73, 3) := by decide +kernel
theorem dL_known_1025 : decode cL_known 1025 = .ok (.ifCond .eq 5, 3) := by decide +kernel
theorem dL_known_1028 : decode cL_known 1028 = .ok (.iconst 0, 1) := by decide +kernel
theorem dL_known_1029 : decode cL_known 1029 = .ok (.ireturn, 1) := by decide +kernel
theorem dL_known_1030 : decode cL_known 1030 = .ok (.new 10, 3) := by decide +kernel
theorem dL_known_1033 : decode cL_known 1033 = .ok (.dup, 1) := by decide +kernel
theorem dL_known_1034 : decode cL_known 1034 = .ok (.invokespecial 145, 3) := by decide +kernel
theorem dL_known_1037 : decode cL_known 1037 = .ok (.astore_n 1, 1) := by decide +kernel
theorem dL_known_1038 : decode cL_known 1038 = .ok (.aload_n 1, 1) := by decide +kernel
theorem dL_known_1039 : decode cL_known 1039 = .ok (.iconst 1, 1) := by decide +kernel
theorem dL_known_1040 : decode cL_known 1040 = .ok (.bipush 50, 2) := by decide +kernel
theorem dL_known_1042 : decode cL_known 1042 = .ok (.invokestatic 118, 3) := by decide +kernel
theorem dL_known_1045 : decode cL_known 1045 = .ok (.iconst 5, 1) := by decide +kernel
theorem dL_known_1046 : decode cL_known 1046 = .ok (.if_icmp .ne 117, 3) := by decide +kernel
theorem dL_known_1049 : decode cL_known 1049 = .ok (.aload_n 1, 1) := by decide +kernel
theorem dL_known_1050 : decode cL_known 1050 = .ok (.iconst 0, 1) := by decide +kernel
theorem dL_known_1051 : decode cL_known 1051 = .ok (.invokestatic 112, 3) := by decide +kernel
theorem dL_known_1054 : decode cL_known 1054 = .ok (.ifCond .ne 109, 3) := by decide +kernel
theorem dL_known_1057 : decode cL_known 1057 = .ok (.aload_n 1, 1) := by decide +kernel
theorem dL_known_1058 : decode cL_known 1058 = .ok (.iconst 3, 1) := by decide +kernel
theorem dL_known_1059 : decode cL_known 1059 = .ok (.invokestatic 112, 3) := by decide +kernel
theorem dL_known_1062 : decode cL_known 1062 = .ok (.iconst 1, 1) := by decide +kernel
theorem dL_known_1063 : decode cL_known 1063 = .ok (.if_icmp .ne 100, 3) := by decide +kernel
theorem dL_known_1066 : decode cL_known 1066 = .ok (.aload_n 1, 1) := by decide +kernel
theorem dL_known_1067 : decode cL_known 1067 = .ok (.iconst 1, 1) := by decide +kernel
theorem dL_known_1068 : decode cL_known 1068 = .ok (.invokestatic 112, 3) := by decide +kernel
theorem dL_known_1071 : decode cL_known 1071 = .ok (.iconst 2, 1) := by decide +kernel
theorem dL_known_1072 : decode cL_known 1072 = .ok (.if_icmp .ne 91, 3) := by decide +kernel
theorem dL_known_1075 : decode cL_known 1075 = .ok (.aload_n 1, 1) := by decide +kernel
theorem dL_known_1076 : decode cL_known 1076 = .ok (.bipush 40, 2) := by decide +kernel
theorem dL_known_1078 : decode cL_known 1078 = .ok (.invokestatic 134, 3) := by decide +kernel
theorem dL_known_1081 : decode cL_known 1081 = .ok (.ifCond .ne 82, 3) := by decide +kernel
theorem dL_known_1084 : decode cL_known 1084 = .ok (.aload_n 1, 1) := by decide +kernel
theorem dL_known_1085 : decode cL_known 1085 = .ok (.iconst 2, 1) := by decide +kernel
theorem dL_known_1086 : decode cL_known 1086 = .ok (.iconst 4, 1) := by decide +kernel
theorem dL_known_1087 : decode cL_known 1087 = .ok (.invokestatic 87, 3) := by decide +kernel
theorem dL_known_1090 : decode cL_known 1090 = .ok (.ifCond .ne 73, 3) := by decide +kernel
theorem dL_known_1093 : decode cL_known 1093 = .ok (.aload_n 1, 1) := by decide +kernel
theorem dL_known_1094 : decode cL_known 1094 = .ok (.iconst 1, 1) := by decide +kernel
theorem dL_known_1095 : decode cL_known 1095 = .ok (.invokestatic 134, 3) := by decide +kernel
theorem dL_known_1098 : decode cL_known 1098 = .ok (.ifCond .ne 65, 3) := by decide +kernel
theorem dL_known_1101 : decode cL_known 1101 = .ok (.aload_n 1, 1) := by decide +kernel
theorem dL_known_1102 : decode cL_known 1102 = .ok (.iconst 2, 1) := by decide +kernel
theorem dL_known_1103 : decode cL_known 1103 = .ok (.iconst 4, 1) := by decide +kernel
theorem dL_known_1104 : decode cL_known 1104 = .ok (.invokestatic 87, 3) := by decide +kernel
theorem dL_known_1107 : decode cL_known 1107 = .ok (.iconst 1, 1) := by decide +kernel
theorem dL_known_1108 : decode cL_known 1108 = .ok (.if_icmp .ne 55, 3) := by decide +kernel
theorem dL_known_1111 : decode cL_known 1111 = .ok (.aload_n 1, 1) := by decide +kernel
theorem dL_known_1112 : decode cL_known 1112 = .ok (.iconst 2, 1) := by decide +kernel
theorem dL_known_1113 : decode cL_known 1113 = .ok (.invokestatic 93, 3) := by decide +kernel
theorem dL_known_1116 : decode cL_known 1116 = .ok (.iconst 2, 1) := by decide +kernel
theorem dL_known_1117 : decode cL_known 1117 = .ok (.if_icmp .ne 46, 3) := by decide +kernel
theorem dL_known_1120 : decode cL_known 1120 = .ok (.aload_n 1, 1) := by decide +kernel
theorem dL_known_1121 : decode cL_known 1121 = .ok (.iconst 1, 1) := by decide +kernel
theorem dL_known_1122 : decode cL_known 1122 = .ok (.invokestatic 93, 3) := by decide +kernel
theorem dL_known_1125 : decode cL_known 1125 = .ok (.iconst 2, 1) := by decide +kernel
theorem dL_known_1126 : decode cL_known 1126 = .ok (.if_icmp .ne 37, 3) := by decide +kernel
theorem dL_known_1129 : decode cL_known 1129 = .ok (.aload_n 1, 1) := by decide +kernel
theorem dL_known_1130 : decode cL_known 1130 = .ok (.iconst 0, 1) := by decide +kernel
theorem dL_known_1131 : decode cL_known 1131 = .ok (.invokestatic 93, 3) := by decide +kernel
theorem dL_known_1134 : decode cL_known 1134 = .ok (.iconst 3, 1) := by decide +kernel
theorem dL_known_1135 : decode cL_known 1135 = .ok (.if_icmp .ne 28, 3) := by decide +kernel
theorem dL_known_1138 : decode cL_known 1138 = .ok (.aload_n 1, 1) := by decide +kernel
theorem dL_known_1139 : decode cL_known 1139 = .ok (.iconst 0, 1) := by decide +kernel
theorem dL_known_1140 : decode cL_known 1140 = .ok (.bipush 6, 2) := by decide +kernel
theorem dL_known_1142 : decode cL_known 1142 = .ok (.invokestatic 90, 3) := by decide +kernel
theorem dL_known_1145 : decode cL_known 1145 = .ok (.bipush 41, 2) := by decide +kernel
theorem dL_known_1147 : decode cL_known 1147 = .ok (.if_icmp .ne 16, 3) := by decide +kernel
theorem dL_known_1150 : decode cL_known 1150 = .ok (.aload_n 0, 1) := by decide +kernel
theorem dL_known_1151 : decode cL_known 1151 = .ok (.invokevirtual 211, 3) := by decide +kernel
theorem dL_known_1154 : decode cL_known 1154 = .ok (.dconst 0, 1) := by decide +kernel
theorem dL_known_1155 : decode cL_known 1155 = .ok (.dcmp .l, 1) := by decide +kernel
theorem dL_known_1156 : decode cL_known 1156 = .ok (.ifCond .ne 7, 3) := by decide +kernel
theorem dL_known_1159 : decode cL_known 1159 = .ok (.iconst 1, 1) := by decide +kernel
theorem dL_known_1160 : decode cL_known 1160 = .ok (.goto 4, 3) := by decide +kernel
theorem dL_known_1163 : decode cL_known 1163 = .ok (.iconst 0, 1) := by decide +kernel
theorem dL_known_1164 : decode cL_known 1164 = .ok (.ireturn, 1) := by decide +kernel
set_option maxRecDepth 20000 in
theorem ggp8_0 : GoodIn wsL_law wsL_texts_r1 := goodIn_r _ [10, 11, 12, 13, 14, 15, 16, 17, 18, 19, 20, 21, 22, 23, 24, 25, 0, 1, 2, 26, 27, 28, 8, 29] (by decide +kernel) (by decide +kernel)
set_option maxRecDepth 20000 in
theorem ggp8_1 : GoodIn wsL_law wsL_texts_r2 := goodIn_r _ [30, 31, 32, 33, 34, 35, 36, 37, 38, 39, 40, 41, 42, 43, 44, 45, 46, 47, 48, 49, 50, 51, 52, 53] (by decide +kernel) (by decide +kernel)
set_option maxRecDepth 20000 in
theorem ggp8_2 : GoodIn wsL_law wsL_texts_r3 := goodIn_r _ [54, 55, 56, 57, 58, 59, 60, 61, 62, 63, 64, 65, 66, 67, 68, 69, 70, 71, 72, 73, 74, 75, 76, 77] (by decide +kernel) (by decide +kernel)
set_option maxRecDepth 20000 in
theorem ggp8_3 : GoodIn wsL_law wsL_texts_r4 := goodIn_r _ [78, 79, 80, 81, 82, 83, 84, 85, 86, 87, 88, 89, 90, 91, 92, 93, 94, 95, 96, 97, 98, 99, 100, 101] (by decide +kernel) (by decide +kernel)
set_option maxRecDepth 20000 in
theorem ggp8_4 : GoodIn wsL_law wsL_texts_r5 := goodIn_r _ [102, 103, 104, 105, 106, 107, 108, 109, 110, 111, 112, 113, 114, 115, 116, 117, 118, 119, 120, 121, 122, 123, 124, 125] (by decide +kernel) (by decide +kernel)
set_option maxRecDepth 20000 in
theorem ggp8_5 : GoodIn wsL_law wsL_texts_r6 := goodIn_r _ [126, 127, 128, 129, 130, 131, 132, 133, 134, 135, 136, 137, 138, 139, 140, 141, 142, 143, 144, 145, 146, 147, 148, 149] (by decide +kernel) (by decide +kernel)
set_option maxRecDepth 20000 in
theorem ggp8_6 : GoodIn wsL_law wsL_texts_r7 := goodIn_r _ [150, 151, 152, 153, 154, 155, 156, 157, 158, 159, 160, 161, 162, 163, 164, 165, 166, 167, 168, 169, 170, 171, 172, 173] (by decide +kernel) (by decide +kernel)
set_option maxRecDepth 20000 in
theorem ggp8_7 : GoodIn wsL_law wsL_texts_r8 := goodIn_r _ [174, 175, 176, 177, 178, 179, 180, 181, 182, 183, 184, 185, 186, 187, 188, 189, 190, 191, 192, 193, 194, 195, 196, 197] (by decide +kernel) (by decide +kernel)
set_option maxRecDepth 20000 in
theorem ggp8_8 : GoodIn wsL_law wsL_texts_r9 := goodIn_r _ [198, 199, 200, 201, 202, 203, 204, 205, 206, 207, 208, 209, 210, 211, 212, 213, 214, 215, 216, 217, 218, 219, 220, 221] (by decide +kernel) (by decide +kernel)
set_option maxRecDepth 20000 in
theorem ggp8_9 : GoodIn wsL_law wsL_texts_r10 := goodIn_r _ [222, 223, 224, 225, 226, 227, 228, 229, 230, 231, 232, 233, 234, 235, 236, 237, 238, 239, 240, 241, 242, 243, 244, 245] (by decide +kernel) (by decide +kernel)
set_option maxRecDepth 20000 in
theorem ggp8_10 : GoodIn wsL_law wsL_texts_r11 := goodIn_r _ [246, 247, 248, 249, 250, 251, 252, 253, 254, 255, 256, 257, 258, 259, 260, 261, 262, 263, 264, 265, 266, 267, 268, 269] (by decide +kernel) (by decide +kernel)
set_option maxRecDepth 20000 in
theorem ggp8_11 : GoodIn wsL_law wsL_texts_r12 := goodIn_r _ [270, 271, 272, 273, 274, 275, 276, 277, 278, 279, 280, 281, 282, 283, 284, 285, 286, 287, 288, 289, 290, 291, 292, 293] (by decide +kernel) (by decide +kernel)
set_option maxRecDepth 20000 in
theorem ggp8_12 : GoodIn wsL_law wsL_texts_r13 := goodIn_r _ [294, 295, 296, 297, 298, 299, 300, 301, 302, 303, 304, 305, 306, 307, 308, 309, 310, 311, 312, 313, 314, 315, 316, 317] (by decide +kernel) (by decide +kernel)
set_option maxRecDepth 20000 in
theorem ggp8_13 : GoodIn wsL_law wsL_texts_r14 := goodIn_r _ [318, 319, 320, 321, 322, 323, 324, 325, 326, 327, 328, 329, 330, 331, 332, 333, 334, 335, 336, 337, 338, 339, 340, 341] (by decide +kernel) (by decide +kernel)
set_option maxRecDepth 20000 in
theorem ggp8_14 : GoodIn wsL_law wsL_texts_r15 := goodIn_r _ [342, 343, 344, 345, 346, 347, 348, 349, 350, 351, 352, 353, 354, 355, 356, 357, 358, 359, 360, 361, 362, 363, 364, 365] (by decide +kernel) (by decide +kernel)
set_option maxRecDepth 20000 in
theorem ggp8_15 : GoodIn wsL_law wsL_texts_r16 := goodIn_r _ [366, 367, 368, 369, 370, 371, 372, 373, 374, 375, 376, 377, 378, 379, 380, 381, 382, 383, 384, 385, 386, 387, 388, 389] (by decide +kernel) (by decide +kernel)
set_option maxRecDepth 20000 in
theorem ggp8_16 : GoodIn wsL_law wsL_texts_r17 := goodIn_r _ [390, 391, 392, 393, 394, 395, 396, 397, 398, 399, 400, 401, 402, 403, 404, 405, 406, 407, 408, 409, 410, 411, 412, 413] (by decide +kernel) (by decide +kernel)
set_option maxRecDepth 20000 in
theorem ggp8_17 : GoodIn wsL_law wsL_texts_r18 := goodIn_r _ [414, 415, 416, 417, 418, 419, 420, 421, 422, 423, 424, 425, 426, 427, 428, 429, 430, 431, 432, 433, 434, 435, 436, 437] (by decide +kernel) (by decide +kernel)
set_option maxRecDepth 20000 in
theorem ggp8_18 : GoodIn wsL_law wsL_texts_r19 := goodIn_r _ [438, 439, 440, 441, 442, 443, 444, 445, 446, 447, 448, 449, 450, 451, 452, 453, 454, 455, 456, 457, 458, 459, 460, 461] (by decide +kernel) (by decide +kernel)
set_option maxRecDepth 20000 in
theorem ggp8_19 : GoodIn wsL_law wsL_texts_r20 := goodIn_r _ [462, 463, 464, 465, 466, 467, 468, 469, 470, 471, 472, 473, 474, 475, 476, 477, 478, 479, 480, 481, 482, 483] (by decide +kernel) (by decide +kernel)
set_option maxRecDepth 20000 in
theorem ggp8_20 : GoodIn wsL_law wsX40 := goodIn_r _ [628, 629, 630, 631, 632] (by decide +kernel) (by decide +kernel)
set_option maxRecDepth 20000 in
theorem ggp8_21 : GoodIn wsL_law wsX00 := goodIn_r _ [633, 634, 635, 636, 637, 638, 639, 640, 641] (by decide +kernel) (by decide +kernel)
set_option maxRecDepth 20000 in
theorem ggp8_22 : GoodIn wsL_law wsX20 := goodIn_r _ [642, 643] (by decide +kernel) (by decide +kernel)
set_option maxRecDepth 20000 in
theorem ggp8_23 : GoodIn wsL_law wsX10 := goodIn_r _ [644, 645, 646, 647, 648, 649] (by decide +kernel) (by decide +kernel)
set_option maxRecDepth 20000 in
theorem ggp8_24 : GoodIn wsL_law wsX30 := goodIn_r _ [650, 651, 652, 653, 654, 655, 656, 657] (by decide +kernel) (by decide +kernel)
set_option maxRecDepth 100000 in
theorem ggL_law_L_texts : GoodIn wsL_law wsL_texts := goodIn_ca (goodIn_ca (goodIn_ca (gc_big (List.mem_of_getElem? (i := 9) rfl) (goodIn_app (goodIn_app (goodIn_app (goodIn_app (goodIn_app (goodIn_app ggp8_0 (goodIn_app ggp8_1 (goodIn_app ggp8_2 (goodIn_app ggp8_3 (goodIn_app ggp8_4 (goodIn_app ggp8_5 (goodIn_app ggp8_6 (goodIn_app ggp8_7 (goodIn_app ggp8_8 (goodIn_app ggp8_9 (goodIn_app ggp8_10 (goodIn_app ggp8_11 (goodIn_app ggp8_12 (goodIn_app ggp8_13 (goodIn_app ggp8_14 (goodIn_app ggp8_15 (goodIn_app ggp8_16 (goodIn_app ggp8_17 (goodIn_app ggp8_18 ggp8_19))))))))))))))))))) ggp8_20) ggp8_21) ggp8_22) ggp8_23) ggp8_24)) (goodIn_sub (fun _ h => List.mem_append_left _ (List.mem_append_left _ (List.mem_append_right _ h))) (by decide +kernel))) (goodIn_sub (fun _ h => List.mem_append_left _ (List.mem_append_right _ h)) (by decide +kernel))) (goodIn_sub (fun _ h => List.mem_append_right _ h) (by decide +kernel))
set_option maxRecDepth 20000 in
theorem gL_law_L_texts : GoodIn wsL_law (va_wsS RL 215 yL_texts wsL_texts) := goodIn_app (goodIn_of _ (by decide +kernel)) ggL_law_L_texts
set_option maxRecDepth 20000 in
theorem ggp9_0 : GoodIn wsL_law wsL_known_r1 := goodIn_r _ [0, 1, 2, 30, 31, 32, 33, 34, 35, 36, 37, 38, 39, 40, 41, 42, 43, 44, 45, 46, 47, 48, 49, 50] (by decide +kernel) (by decide +kernel)
set_option maxRecDepth 20000 in
theorem ggp9_1 : GoodIn wsL_law wsL_known_r2 := goodIn_r _ [51, 52, 53, 54, 55, 56, 57, 58, 59, 60, 61, 62, 63, 64, 65, 66, 67, 68, 69, 70, 71, 72, 73, 74] (by decide +kernel) (by decide +kernel)
set_option maxRecDepth 20000 in
theorem ggp9_2 : GoodIn wsL_law wsL_known_r3 := goodIn_r _ [75, 76, 77, 78, 79, 80, 81, 82, 83, 84, 85, 86, 87, 88, 89, 90, 91, 92, 93, 94, 95, 96, 97, 98] (by decide +kernel) (by decide +kernel)
set_option maxRecDepth 20000 in
theorem ggp9_3 : GoodIn wsL_law wsL_known_r4 := goodIn_r _ [99, 100, 101, 102, 103, 104, 105, 106, 107, 108, 109, 110, 111, 112, 113, 114, 115, 116, 117, 118, 119, 120, 121, 122] (by decide +kernel) (by decide +kernel)
set_option maxRecDepth 20000 in
theorem ggp9_4 : GoodIn wsL_law wsL_known_r5 := goodIn_r _ [123, 124, 125, 126, 127, 128, 129, 130, 131, 132, 133, 134, 135, 136, 137, 138, 139, 140, 141, 142, 143, 144, 145, 146] (by decide +kernel) (by decide +kernel)
set_option maxRecDepth 20000 in
theorem ggp9_5 : GoodIn wsL_law wsL_known_r6 := goodIn_r _ [147, 148, 149, 150, 151, 152, 153, 154, 155, 156, 157, 158, 159, 160, 161, 162, 163, 164, 165, 166, 167, 168, 169, 170] (by decide +kernel) (by decide +kernel)
set_option maxRecDepth 20000 in
theorem ggp9_6 : GoodIn wsL_law wsL_known_r7 := goodIn_r _ [487, 488, 8, 489, 189, 190, 191, 192, 193, 188, 194, 195, 196, 197, 198, 199, 200, 201, 202, 184, 185, 203, 204, 205] (by decide +kernel) (by decide +kernel)
set_option maxRecDepth 20000 in
theorem ggp9_7 : GoodIn wsL_law wsL_known_r8 := goodIn_r _ [206, 207, 208, 209, 210, 211, 212, 213, 214, 215, 216, 217, 218, 219, 220, 221, 222, 223, 224, 225, 226, 227, 228, 229] (by decide +kernel) (by decide +kernel)
set_option maxRecDepth 20000 in
theorem ggp9_8 : GoodIn wsL_law wsL_known_r9 := goodIn_r _ [230, 231, 232, 233, 234, 235, 236, 237, 238, 239, 240, 241, 242, 243, 244, 245, 246, 247, 248, 249, 250, 251, 252, 253] (by decide +kernel) (by decide +kernel)
set_option maxRecDepth 20000 in
theorem ggp9_9 : GoodIn wsL_law wsL_known_r10 := goodIn_r _ [254, 255, 256, 257, 258, 259, 260, 261, 262, 263, 264, 265, 266, 267, 268, 269, 270, 271, 272, 273, 274, 275, 276, 277] (by decide +kernel) (by decide +kernel)
set_option maxRecDepth 20000 in
theorem ggp9_10 : GoodIn wsL_law wsL_known_r11 := goodIn_r _ [278, 279, 280, 281, 282, 283, 284, 285, 286, 287, 288, 289, 290, 291, 292, 293, 294, 295, 296, 297, 298, 299, 300, 301] (by decide +kernel) (by decide +kernel)
set_option maxRecDepth 20000 in
theorem ggp9_11 : GoodIn wsL_law wsL_known_r12 := goodIn_r _ [302, 303, 304, 305, 306, 307, 308, 309, 310, 311, 312, 313, 314, 315, 316, 317, 318, 319, 320, 321, 322, 323, 324, 325] (by decide +kernel) (by decide +kernel)
set_option maxRecDepth 20000 in
theorem ggp9_12 : GoodIn wsL_law wsL_known_r13 := goodIn_r _ [326, 327, 328, 329, 330, 331, 332, 333, 334, 335, 336, 337, 338, 339, 340, 341, 342, 343, 344, 345, 346, 347, 348, 349] (by decide +kernel) (by decide +kernel)
set_option maxRecDepth 20000 in
theorem ggp9_13 : GoodIn wsL_law wsL_known_r14 := goodIn_r _ [350, 351, 352, 353, 354, 355, 356, 357, 358, 359, 360, 361, 362, 363, 364, 365, 366, 367, 368, 369, 370, 371, 372, 373] (by decide +kernel) (by decide +kernel)
set_option maxRecDepth 20000 in
theorem ggp9_14 : GoodIn wsL_law wsL_known_r15 := goodIn_r _ [374, 375, 376, 377, 378, 379, 380, 381, 382, 383, 384, 385, 386, 387, 388, 389, 390, 391, 392, 393, 394, 395, 396, 397] (by decide +kernel) (by decide +kernel)
set_option maxRecDepth 20000 in
theorem ggp9_15 : GoodIn wsL_law wsL_known_r16 := goodIn_r _ [398, 399, 400, 401, 402, 403, 404, 405, 406, 407, 408, 409, 410, 411, 412, 413, 414, 415, 416, 417, 418, 419, 420, 421] (by decide +kernel) (by decide +kernel)
set_option maxRecDepth 20000 in
theorem ggp9_16 : GoodIn wsL_law wsL_known_r17 := goodIn_r _ [422, 423, 424, 425, 426, 427, 428, 429, 430, 431, 432, 433, 434, 435, 436, 437, 438, 439, 490, 491, 492, 467, 468, 469] (by decide +kernel) (by decide +kernel)
set_option maxRecDepth 20000 in
theorem ggp9_17 : GoodIn wsL_law wsL_known_r18 := goodIn_r _ [178, 470, 493, 494, 495, 474, 179, 496, 497, 498, 499, 186, 187, 500, 456, 457, 458, 459, 501, 502, 503, 504, 505, 506] (by decide +kernel) (by decide +kernel)
set_option maxRecDepth 20000 in
theorem ggp9_18 : GoodIn wsL_law wsL_known_r19 := goodIn_r _ [507, 508, 509, 510, 511, 512, 513, 514, 515, 516, 517, 518, 519, 520, 521, 522, 523, 524, 525, 526, 527, 528, 529, 530] (by decide +kernel) (by decide +kernel)
set_option maxRecDepth 20000 in
theorem ggp9_19 : GoodIn wsL_law wsL_known_r20 := goodIn_r _ [531, 532, 533, 534, 535, 536, 537, 538, 539, 540, 541, 542, 471, 472, 473, 475, 543, 544, 545, 546, 547, 548, 549, 550] (by decide +kernel) (by decide +kernel)
set_option maxRecDepth 20000 in
theorem ggp9_20 : GoodIn wsL_law wsL_known_r21 := goodIn_r _ [551, 552, 553, 554, 555, 556, 557, 558, 559, 560, 561, 562, 563, 564, 565, 566, 567, 568, 569, 570, 571, 572, 573, 574] (by decide +kernel) (by decide +kernel)
set_option maxRecDepth 20000 in
theorem ggp9_21 : GoodIn wsL_law wsL_known_r22 := goodIn_r _ [575, 576, 577, 578, 579, 580, 581, 582, 583, 584, 585, 586, 587, 588, 589, 175, 176, 177, 180, 181, 182, 183, 590, 591] (by decide +kernel) (by decide +kernel)
set_option maxRecDepth 20000 in
theorem ggp9_22 : GoodIn wsL_law wsL_known_r23 := goodIn_r _ [592, 593, 594, 595, 596, 597, 598, 599, 600, 601, 602, 603, 604, 605, 606, 607, 608, 609, 610, 611, 612, 613, 614, 615] (by decide +kernel) (by decide +kernel)
set_option maxRecDepth 20000 in
theorem ggp9_23 : GoodIn wsL_law wsL_known_r24 := goodIn_r _ [616, 617, 618, 619] (by decide +kernel) (by decide +kernel)
set_option maxRecDepth 20000 in
theorem ggp9_24 : GoodIn wsL_law wsX40 := goodIn_r _ [628, 629, 630, 631, 632] (by decide +kernel) (by decide +kernel)
set_option maxRecDepth 20000 in
theorem ggp9_25 : GoodIn wsL_law wsX00 := goodIn_r _ [633, 634, 635, 636, 637, 638, 639, 640, 641] (by decide +kernel) (by decide +kernel)
set_option maxRecDepth 20000 in
theorem ggp9_26 : GoodIn wsL_law wsX20 := goodIn_r _ [642, 643] (by decide +kernel) (by decide +kernel)
set_option maxRecDepth 20000 in
theorem ggp9_27 : GoodIn wsL_law wsX10 := goodIn_r _ [644, 645, 646, 647, 648, 649] (by decide +kernel) (by decide +kernel)
set_option maxRecDepth 20000 in
theorem ggp9_28 : GoodIn wsL_law wsX30 := goodIn_r _ [650, 651, 652, 653, 654, 655, 656, 657] (by decide +kernel) (by decide +kernel)
set_option maxRecDepth 100000 in
theorem ggL_law_L_known : GoodIn wsL_law wsL_known := goodIn_ca (goodIn_ca (goodIn_ca (gc_big (List.mem_of_getElem? (i := 486) rfl) (goodIn_app (goodIn_app (goodIn_app (goodIn_app (goodIn_app (goodIn_app ggp9_0 (goodIn_app ggp9_1 (goodIn_app ggp9_2 (goodIn_app ggp9_3 (goodIn_app ggp9_4 (goodIn_app ggp9_5 (goodIn_app ggp9_6 (goodIn_app ggp9_7 (goodIn_app ggp9_8 (goodIn_app ggp9_9 (goodIn_app ggp9_10 (goodIn_app ggp9_11 (goodIn_app ggp9_12 (goodIn_app ggp9_13 (goodIn_app ggp9_14 (goodIn_app ggp9_15 (goodIn_app ggp9_16 (goodIn_app ggp9_17 (goodIn_app ggp9_18 (goodIn_app ggp9_19 (goodIn_app ggp9_20 (goodIn_app ggp9_21 (goodIn_app ggp9_22 ggp9_23))))))))))))))))))))))) ggp9_24) ggp9_25) ggp9_26) ggp9_27) ggp9_28)) (goodIn_sub (fun _ h => List.mem_append_left _ (List.mem_append_left _ (List.mem_append_right _ h))) (by decide +kernel))) (goodIn_sub (fun _ h => List.mem_append_right _ h) (by decide +kernel))) (goodIn_sub (fun _ h => List.mem_append_left _ (List.mem_append_right _ h)) (by decide +kernel))
set_option maxRecDepth 20000 in
theorem gL_law_L_known : GoodIn wsL_law (va_wsS RL 219 yL_known wsL_known) := goodIn_app (goodIn_of _ (by decide +kernel)) ggL_law_L_known
set_option maxRecDepth 20000 in
theorem ggL_law_X4_init : GoodIn wsL_law wsX4_init := goodIn_r _ [32, 33, 34, 35, 36, 37, 38, 39, 40, 41, 42, 43, 44, 45, 46, 47, 48, 49, 50, 51, 52, 53, 54, 55, 56, 57, 58, 59, 60, 61, 62, 63, 64, 65, 66, 67, 68, 69, 70, 71, 72, 73, 74, 75, 76, 77, 78, 79, 80, 81, 82, 83, 84, 85, 86, 87, 88, 89, 90, 91, 92, 93, 94, 95, 96, 97, 98, 99, 2, 100, 101, 102, 103, 104, 105, 106, 107, 108, 109, 110, 111, 112, 113, 114, 115, 116, 117, 118, 119, 120, 121, 122, 123, 124, 125, 126, 127, 128, 129, 130, 131, 132, 133, 134, 135, 136, 137, 138, 139, 140, 141, 142, 143, 144, 145, 146, 147, 148, 149, 150, 151, 152, 153, 154, 155, 156, 157, 158, 159, 160, 161, 162, 163, 164, 165, 166, 167, 168, 169, 170, 633, 634, 635, 636, 637, 638, 639, 640, 641, 628, 629, 630, 631, 632, 642, 643, 644, 645, 646, 647, 648, 649, 650, 651, 652, 653, 654, 655, 656, 657] (by decide +kernel) (by decide +kernel)
set_option maxRecDepth 20000 in
theorem gL_law_X4_init : GoodIn wsL_law (wsX4_init) := ggL_law_X4_init
set_option maxRecDepth 20000 in
theorem ggL_law_L_take : GoodIn wsL_law wsL_take := goodIn_r _ [622, 623] (by decide +kernel) (by decide +kernel)
set_option maxRecDepth 20000 in
theorem gL_law_L_take : GoodIn wsL_law (va_wsS RL 222 yL_take wsL_take) := goodIn_app (goodIn_of _ (by decide +kernel)) ggL_law_L_take
