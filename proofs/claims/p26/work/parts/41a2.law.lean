set_option maxRecDepth 20000 in
theorem lin_wsL_law0_r15 : ∀ w ∈ wsL_law0_r15, w ∈ lw_tbl := fun w h => (goodIn_p wsL_law0_r15 [730, 684, 570, 680] (by decide +kernel) (by decide +kernel) w h).1
set_option maxRecDepth 20000 in
theorem lin_wsL_law0_r16 : ∀ w ∈ wsL_law0_r16, w ∈ lw_tbl := fun w h => (goodIn_p wsL_law0_r16 [696, 411, 415, 422, 517] (by decide +kernel) (by decide +kernel) w h).1
set_option maxRecDepth 20000 in
theorem lin_wsL_law0_r17 : ∀ w ∈ wsL_law0_r17, w ∈ lw_tbl := fun w h => (goodIn_p wsL_law0_r17 [521, 543, 547, 551, 555] (by decide +kernel) (by decide +kernel) w h).1
set_option maxRecDepth 20000 in
theorem lin_wsL_law0_r18 : ∀ w ∈ wsL_law0_r18, w ∈ lw_tbl := fun w h => (goodIn_p wsL_law0_r18 [563, 574, 579, 583, 435] (by decide +kernel) (by decide +kernel) w h).1
set_option maxRecDepth 20000 in
theorem lin_wsL_law0_r19 : ∀ w ∈ wsL_law0_r19, w ∈ lw_tbl := fun w h => (goodIn_p wsL_law0_r19 [588, 592, 792, 796, 800, 804] (by decide +kernel) (by decide +kernel) w h).1
set_option maxRecDepth 20000 in
theorem lin_wsL_law0_r20 : ∀ w ∈ wsL_law0_r20, w ∈ lw_tbl := fun w h => (goodIn_p wsL_law0_r20 [407, 621, 825] (by decide +kernel) (by decide +kernel) w h).1
def lw_big_a : List Cond := [Cond.methodLink RX4 264 yX2_clear, Cond.instanceMethod yX2_clear, Cond.selects RX2 yX2_clear yX2_clear, Cond.code yX2_clear cX2_clear 1 none, Cond.methodLink RL 219 yL_known, Cond.static yL_known]
def lw_big_b : List Cond := [Cond.methodLink RL 198 yL_refused, Cond.static yL_refused, Cond.code yL_refused cL_refused 4 (some .boolean), Cond.methodLink RL 130 yL_refusesPlaces, Cond.static yL_refusesPlaces, Cond.code yL_refusesPlaces cL_refusesPlaces 5 (some .boolean), Cond.methodLink RL 112 yL_adding, Cond.static yL_adding, Cond.codeWith yL_adding cL_adding 3 (some .int) [(0, 5, 6, 15), (0, 5, 11, 17)], Cond.methodLink RL 9 yX4_addTrain, Cond.instanceMethod yX4_addTrain, Cond.selects RX4 yX4_addTrain yX4_addTrain, Cond.code yX4_addTrain cX4_addTrain 2 (some .int), Cond.methodLink RX4 71 yX0_isFree, Cond.methodLink RX4 80 yX0_putTrain, Cond.instanceMethod yX0_putTrain, Cond.selects RX0 yX0_putTrain yX0_putTrain]
set_option maxRecDepth 100000 in
theorem lw_big_c : Cond.code yL_known cL_known 2 (some .boolean) ∈ lw_tbl := List.mem_of_getElem? (i := 832) rfl
set_option maxRecDepth 20000 in
theorem lin_wsL_law0_r21 : ∀ w ∈ wsL_law0_r21, w ∈ lw_tbl := fun w h => (List.mem_append.mp (show w ∈ lw_big_a ++ (Cond.code yL_known cL_known 2 (some .boolean) :: lw_big_b) from h)).elim (fun h => (goodIn_p lw_big_a [829] (by decide +kernel) (by decide +kernel) w h).1) (fun h => (List.mem_cons.mp h).elim (fun e => e ▸ lw_big_c) (fun h => (goodIn_p lw_big_b [734, 737, 299] (by decide +kernel) (by decide +kernel) w h).1))
