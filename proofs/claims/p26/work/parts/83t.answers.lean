set_option maxRecDepth 100000 in
theorem ka_26 : allV K0 0 = 14 := by decide +kernel
set_option maxRecDepth 100000 in
theorem ka_36 : allV K0 1 = 4 := by decide +kernel
set_option maxRecDepth 100000 in
theorem ka_46 : allV K0 9 = (-1) := by decide +kernel
set_option maxRecDepth 100000 in
theorem ka_56 : allV K0 11 = 7 := by decide +kernel
set_option maxRecDepth 100000 in
theorem ka_67 : blkV K0 0 0 = 0 := by decide +kernel
set_option maxRecDepth 100000 in
theorem ka_76 : blkV K0 0 1 = 0 := by decide +kernel
set_option maxRecDepth 100000 in
theorem ka_85 : blkV K0 0 2 = 1 := by decide +kernel
set_option maxRecDepth 100000 in
theorem ka_95 : blkV K0 1 0 = 1 := by decide +kernel
set_option maxRecDepth 100000 in
theorem ka_105 : blkV K0 1 1 = 5 := by decide +kernel
set_option maxRecDepth 100000 in
theorem ka_115 : blkV K0 1 2 = 5 := by decide +kernel
set_option maxRecDepth 100000 in
theorem ka_125 : blkV K0 3 0 = 11 := by decide +kernel
set_option maxRecDepth 100000 in
theorem ka_136 : blkV K0 3 1 = 13 := by decide +kernel
set_option maxRecDepth 100000 in
theorem ka_148 : celV K0 6 2 = 2 := by decide +kernel
set_option maxRecDepth 100000 in
theorem ka_158 : celV K0 4 1 = 1 := by decide +kernel
set_option maxRecDepth 100000 in
theorem ka_169 : celV K0 13 1 = 2 := by decide +kernel
set_option maxRecDepth 100000 in
theorem ka_194 : takV K0 = (-3003) ∧ takS K0 = K0 := ⟨by decide +kernel, s3_n (by decide +kernel)⟩
set_option maxRecDepth 100000 in
theorem ka_207 : lstV K0 5 = 0 := by decide +kernel
set_option maxRecDepth 100000 in
theorem ka_215 : lstV K0 4 = 3 := by decide +kernel
set_option maxRecDepth 100000 in
theorem ka_224 : lstV K0 3 = 0 := by decide +kernel
set_option maxRecDepth 100000 in
theorem ka_233 : lstV K0 9 = 203 := by decide +kernel
set_option maxRecDepth 100000 in
theorem ka_245 : lstV K0 8 = 106 := by decide +kernel
set_option maxRecDepth 100000 in
theorem ka_256 : lstV K0 7 = 309 := by decide +kernel
set_option maxRecDepth 100000 in
theorem ka_268 : lstV K0 6 = 12 := by decide +kernel
set_option maxRecDepth 100000 in
theorem ka_279 : lstV K0 12 = 0 := by decide +kernel
set_option maxRecDepth 100000 in
theorem ka_288 : lstV K0 11 = 0 := by decide +kernel
set_option maxRecDepth 100000 in
theorem ka_306 : addV K1 0 = (-3003) ∧ addS K1 0 = K1 := ⟨by decide +kernel, s3_n (by decide +kernel)⟩
set_option maxRecDepth 100000 in
theorem ka_319 : trnV K1 0 7 = 7 := by decide +kernel
set_option maxRecDepth 100000 in
theorem ka_330 : trnV K1 0 4 = 20 := by decide +kernel
set_option maxRecDepth 100000 in
theorem ka_340 : whyV K1 0 = 3 := by decide +kernel
set_option maxRecDepth 100000 in
theorem ka_397 : resV K1 0 = (-3003) ∧ resS K1 0 = K1 := ⟨by decide +kernel, s3_n (by decide +kernel)⟩
set_option maxRecDepth 100000 in
theorem ka_418 : trnV K2 0 6 = 4 := by decide +kernel
set_option maxRecDepth 100000 in
theorem ka_427 : whyV K2 0 = 5 := by decide +kernel
set_option maxRecDepth 100000 in
theorem ka_446 : trnV K3 0 2 = 25 := by decide +kernel
set_option maxRecDepth 100000 in
theorem ka_458 : trnV K3 0 6 = 0 := by decide +kernel
set_option maxRecDepth 100000 in
theorem ka_466 : whyV K3 0 = 0 := by decide +kernel
set_option maxRecDepth 100000 in
theorem ka_475 : sntV K3 0 0 = 4 := by decide +kernel
set_option maxRecDepth 100000 in
theorem ka_485 : sntV K3 0 1 = 0 := by decide +kernel
set_option maxRecDepth 100000 in
theorem ka_494 : allV K3 8 = 1 := by decide +kernel
set_option maxRecDepth 100000 in
theorem ka_504 : allV K3 9 = 4 := by decide +kernel
set_option maxRecDepth 100000 in
theorem ka_513 : addV K3 1 = (-3003) ∧ addS K3 1 = K3 := ⟨by decide +kernel, s3_n (by decide +kernel)⟩
set_option maxRecDepth 100000 in
theorem ka_534 : trnV K4 0 0 = 1 := by decide +kernel
set_option maxRecDepth 100000 in
theorem ka_545 : trnV K4 0 8 = 1 := by decide +kernel
set_option maxRecDepth 100000 in
theorem ka_555 : blkV K4 1 3 = 0 := by decide +kernel
set_option maxRecDepth 100000 in
theorem ka_564 : celV K4 1 3 = 0 := by decide +kernel
set_option maxRecDepth 100000 in
theorem ka_584 : trnV K5 0 0 = 4 := by decide +kernel
set_option maxRecDepth 100000 in
theorem ka_594 : trnV K5 0 3 = 95 := by decide +kernel
set_option maxRecDepth 100000 in
theorem ka_613 : trnV K6 0 0 = 5 := by decide +kernel
set_option maxRecDepth 100000 in
theorem ka_623 : trnV K6 0 5 = 1 := by decide +kernel
set_option maxRecDepth 100000 in
theorem ka_632 : whyV K6 0 = 5 := by decide +kernel
set_option maxRecDepth 100000 in
theorem ka_641 : allV K6 3 = 105 := by decide +kernel
set_option maxRecDepth 100000 in
theorem ka_653 : trnV K6 0 8 = 5 := by decide +kernel
set_option maxRecDepth 100000 in
theorem ka_681 : trnV K7 0 0 = 7 := by decide +kernel
set_option maxRecDepth 100000 in
theorem ka_692 : trnV K7 0 2 = 611 := by decide +kernel
set_option maxRecDepth 100000 in
theorem ka_704 : trnV K7 0 3 = 2 := by decide +kernel
set_option maxRecDepth 100000 in
theorem ka_714 : trnV K7 0 4 = 21 := by decide +kernel
set_option maxRecDepth 100000 in
theorem ka_726 : trnV K7 0 7 = 6 := by decide +kernel
set_option maxRecDepth 100000 in
theorem ka_746 : trnV K8 0 0 = 10 := by decide +kernel
set_option maxRecDepth 100000 in
theorem ka_757 : trnV K8 0 5 = 1 := by decide +kernel
set_option maxRecDepth 100000 in
theorem ka_767 : trnV K8 0 4 = 33 := by decide +kernel
set_option maxRecDepth 100000 in
theorem ka_779 : trnV K8 0 8 = 10 := by decide +kernel
set_option maxRecDepth 100000 in
theorem ka_790 : blkV K8 2 4 = 0 := by decide +kernel
set_option maxRecDepth 100000 in
theorem ka_808 : trnV K9 0 0 = 0 := by decide +kernel
set_option maxRecDepth 100000 in
theorem ka_818 : trnV K9 0 8 = 14 := by decide +kernel
set_option maxRecDepth 100000 in
theorem ka_830 : trnV K9 0 9 = 1 := by decide +kernel
set_option maxRecDepth 100000 in
theorem ka_862 : lstV K10 4 = 203 := by decide +kernel
set_option maxRecDepth 100000 in
theorem ka_873 : lstV K10 3 = (-1) := by decide +kernel
set_option maxRecDepth 100000 in
theorem ka_919 : allV K11 10 = 0 := by decide +kernel
set_option maxRecDepth 100000 in
theorem ka_936 : trnV K12 0 5 = 2 := by decide +kernel
set_option maxRecDepth 100000 in
theorem ka_946 : trnV K12 0 0 = 4 := by decide +kernel
set_option maxRecDepth 100000 in
theorem ka_955 : whyV K12 0 = 1 := by decide +kernel
set_option maxRecDepth 100000 in
theorem ka_965 : allV K12 10 = 1 := by decide +kernel
set_option maxRecDepth 100000 in
theorem ka_984 : trnV K13 0 0 = 5 := by decide +kernel
set_option maxRecDepth 100000 in
theorem ka_994 : trnV K13 0 5 = 1 := by decide +kernel
set_option maxRecDepth 100000 in
theorem ka_1005 : trnV K13 0 8 = 18 := by decide +kernel
set_option maxRecDepth 100000 in
theorem ka_1022 : allV K14 2 = 0 := by decide +kernel
set_option maxRecDepth 100000 in
theorem ka_1087 : blkV Q5 2 4 = 0 := by decide +kernel
set_option maxRecDepth 100000 in
theorem ka_1104 : blkV Q6 2 4 = 1 := by decide +kernel
set_option maxRecDepth 100000 in
theorem ka_1113 : whyV Q6 2 = 2 := by decide +kernel
set_option maxRecDepth 100000 in
theorem ka_1122 : whyV Q6 1 = 2 := by decide +kernel
set_option maxRecDepth 100000 in
theorem ka_1131 : whyV Q6 0 = 3 := by decide +kernel
set_option maxRecDepth 100000 in
theorem ka_1142 : trnV Q6 0 6 = 41 := by decide +kernel
theorem kw_14 : warmM K14.1 = FP.dconst0 := by
  unfold warmM
  rw [if_pos (by decide +kernel)]
