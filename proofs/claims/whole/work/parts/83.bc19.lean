set_option maxRecDepth 100000 in
set_option maxHeartbeats 4000000 in
theorem c_L_addTrain (l : Launch) (hl0 : l.stackTraces = false) (D : va_G) (sz : Nat) (y : Nat → ClassId) (o : Nat → Nat) (a : Nat → Nat → Nat) (S : Nat → Nat → Int → Int) (tb : Nat → Nat) (x : Int → Int) (ln sm : Int) (f sv : Int → Int) (b : Int) (ob : Nat) (g : Nat → Int64) (h9b : -2147483648 ≤ b ∧ b ≤ 2147483647) (hT : Tie f sv x sm ln S) : Met l yL_addTrain wsL_addTrain ({ frames := 8, cells := 1, slots := 6, locals := 134 } : Room) (zPe D vwCl (zT y) (wBq y o a S tb x ln sm (sav a) p6 ++ wO1 y ob g) sz [.ref (o 0), .int (iZ b), .ref ob]) (va_Qi (fun (r : Int32) (u : (Nat → Nat → Nat) × (Nat → Nat → Int → Int) × (Nat → Int64)) => r = iZ (thAdd f b) ∧ ((thAdd f b) = 0 → u.2.2 0 = lZ (wz (f 2))) ∧ Tie (if thAdd f b = 0 then addT f b else f) (if thAdd f b = 0 then svS sv f sm else sv) x (if thAdd f b = 0 then smS sm else sm) ln u.2.1) (zB D vwCl (zT y) (wBq y o a S tb x ln sm (sav a) p6 ++ wO1 y ob g) sz (fun u : (Nat → Nat → Nat) × (Nat → Nat → Int → Int) × (Nat → Int64) => wBq y o u.1 u.2.1 tb x ln (if thAdd f b = 0 then smS sm else sm) (sav u.1) p6 ++ wO1 y ob u.2.2)) (va_A (wBq y o a S tb x ln sm (sav a) p6 ++ wO1 y ob g) sz)) 1 6 (va_A (wBq y o a S tb x ln sm (sav a) p6 ++ wO1 y ob g) sz) := by
  obtain ⟨⟨hR, hI, kp⟩, hsc, hTS, hl, htx⟩ := id hT
  refine z_headH (cc := cL_addTrain) (maxL := 4) (ret := some .int) (hh := [(0, 9, 12, 13), (0, 9, 15, 15)]) [(0, .ref (o 0)), (1, .int (iZ b)), (2, .ref ob)] rfl (Nat.le_of_ble_eq_true rfl) (by decide +kernel) rfl ?_
  intro pp ee ss mm below meth cd mx mb mr mml mo mts mlk hK hsz hA hE hXt
  generalize ([.ref (o 0), .int (iZ b), .ref ob] : List Value).toArray = args at mts ⊢
  obtain ⟨wst, hw0⟩ : ∃ wst, wst = (wBq y o a S tb x ln sm (sav a) p6 ++ wO1 y ob g) := ⟨_, rfl⟩
  replace hE : zE (va_A wst sz) ss ss.heap := by rw [hw0]; exact hE
  replace hA : ∀ q, ss.heap.size ≤ q → va_A wst sz q := by rw [hw0]; exact hA
  obtain ⟨Q, hQ⟩ : ∃ Q, Q = MQ below (va_Qi (fun (r : Int32) (u : (Nat → Nat → Nat) × (Nat → Nat → Int → Int) × (Nat → Int64)) => r = iZ (thAdd f b) ∧ ((thAdd f b) = 0 → u.2.2 0 = lZ (wz (f 2))) ∧ Tie (if thAdd f b = 0 then addT f b else f) (if thAdd f b = 0 then svS sv f sm else sv) x (if thAdd f b = 0 then smS sm else sm) ln u.2.1) (zB D vwCl (zT y) wst sz (fun u : (Nat → Nat → Nat) × (Nat → Nat → Int → Int) × (Nat → Int64) => wBq y o u.1 u.2.1 tb x ln (if thAdd f b = 0 then smS sm else sm) (sav u.1) p6 ++ wO1 y ob u.2.2)) (va_A wst sz)) args ss 1 6 (va_A wst sz) := ⟨_, rfl⟩
  have hstart : Gz pp l ee ({ frames := 8, cells := 1, slots := 6, locals := 134 } : Room) ss mm args below meth cd 4 0 0 Q (Zw D vwCl (va_A wst sz) ss (wBq y o a S tb x ln sm (sav a) p6 ++ wO1 y ob g)) 0 [(0, .ref (o 0)), (1, .int (iZ b)), (2, .ref ob)] [] := by
    refine z_aload_n mx mb dL_addTrain_0 rfl 2 rfl ?_
    refine z_iconst mx mb dL_addTrain_1 ?_
    refine z_aload_n mx mb dL_addTrain_2 rfl 0 rfl ?_
    refine z_iload_n mx mb dL_addTrain_3 rfl 1 rfl ?_
    rcases thAdd_c f b with ⟨e0, h1, h2, h3⟩ | ⟨e0, h1⟩ | ⟨e0, h1, h2⟩
    · refine z_callI (wa := []) (wc := wBq y o a S tb x ln sm (sav a) p6) (wb := wO1 y ob g) (As := [.int (iZ b)]) (rest := [.int (iZ 0), .ref ob]) ⟨mx, mb, mml, mo, mts⟩ hK hA (fun sz => c_X4_addTrain l D sz y o a S tb x ln sm f b hR hI kp hsc h1 (by have := (Inv_Jy hI).f.1.2.2.1; omega) h3) (cwV 1 mts gL_addTrain_X4_addTrain rfl rfl rfl (by decide +kernel) ⟨Nat.le_of_ble_eq_true rfl, Nat.le_of_ble_eq_true rfl⟩) rfl 0 rfl rfl rfl rfl rfl (Nat.le_of_ble_eq_true rfl) ⟨Nat.le_of_ble_eq_true rfl, Nat.le_of_ble_eq_true rfl⟩ dL_addTrain_4 (fun r u hu => ?_)
      obtain ⟨a2, S2⟩ := u
      obtain ⟨hr, v0, v1, v2, v3, v4⟩ := hu
      replace v2 : Rel (addT f b) (S2 0) := v2
      have tie2 : Tie (addT f b) (svS sv f sm) x (smS sm) ln S2 := tie_save hT v2 (add_keep hI kp h1 (by have := (Inv_Jy hI).f.1.2.2.1; omega) h3) v3 v4
      obtain rfl : r = iZ (f 2) := hr
      show Gz pp l ee ({ frames := 8, cells := 1, slots := 6, locals := 134 } : Room) ss mm args below meth cd 4 0 0 Q (Zw D vwCl (va_A wst sz) ss (wBq y o a2 S2 tb x ln (smS sm) (sav a2) p6 ++ wO1 y ob g)) 7 [(0, .ref (o 0)), (1, .int (iZ b)), (2, .ref ob)] [.int (iZ (f 2)), .int (iZ 0), .ref ob]
      refine z_i2lw mx mb dL_addTrain_7 ?_
      refine z_last mx mb hK 94 3 rfl rfl dL_addTrain_8 (wBq y o a2 S2 tb x ln (smS sm) (sav a2) p6 ++ wO1 y ob (vp_updL g 0 (lZ (wz (f 2))))) rfl ?_
      refine z_goto (tgt := 18) mx mb dL_addTrain_9 (by decide) ?_
      refine z_iconst mx mb dL_addTrain_18 ?_
      rw [hQ]
      refine z_widen (k1 := 1) (n1 := 6) (by decide) (by decide) ?_
      exact z_retI mx mb mr mlk hK (a2, S2, vp_updL g 0 (lZ (wz (f 2)))) ⟨by rw [e0], fun _ => rfl, by rw [e0]; exact tie2⟩ (by rw [e0]; rfl) dL_addTrain_19
    · refine z_callXc (wa := []) (wc := wBq y o a S tb x ln sm (sav a) p6) (wb := wO1 y ob g) (As := [.int (iZ b)]) (rest := [.int (iZ 0), .ref ob]) ⟨mx, mb, mml, mo, mts⟩ hK hA hE (fun sz => c_X4_addTrain_t1 l hl0 D sz y o a S tb x ln sm f b hR hI kp h9b h1) (cwV 1 mts gL_addTrain_X4_addTrain rfl rfl rfl (by decide +kernel) ⟨Nat.le_of_ble_eq_true rfl, Nat.le_of_ble_eq_true rfl⟩) rfl 0 rfl rfl rfl rfl rfl (Nat.le_of_ble_eq_true rfl) ⟨Nat.le_of_ble_eq_true rfl, Nat.le_of_ble_eq_true rfl⟩ dL_addTrain_4 [] (tE (0, 9, 12, 13)) [tE (0, 9, 15, 15)] (by rw [hXt]; rfl) (fun z hz => nomatch hz) (by decide) (by decide) (mts _ (List.mem_of_getElem? (i := 1) rfl)) (eW_use (List.mem_of_getElem? (i := 3) rfl) (hE.2.2.2.1 _ (List.mem_of_getElem? (i := 3) rfl))) (tgt := 12) rfl (fun q9 => ?_)
      show Gz pp l ee ({ frames := 8, cells := 1, slots := 6, locals := 134 } : Room) ss mm args below meth cd 4 1 6 Q (Zw D vwCl (va_A wst sz) ss (wBq y o a S tb x ln sm (sav a) p6 ++ wO1 y ob g)) 12 [(0, .ref (o 0)), (1, .int (iZ b)), (2, .ref ob)] [.ref q9]
      refine z_astore_n mx mb dL_addTrain_12 rfl (by decide) [(3, .ref q9), (0, .ref (o 0)), (1, .int (iZ b)), (2, .ref ob)] rfl ?_
      refine z_iconst mx mb dL_addTrain_13 ?_
      rw [hQ]
      exact z_retI mx mb mr mlk hK (a, S, g) ⟨by rw [e0], fun h => absurd (e0.symm.trans h) (by decide), by rw [e0]; exact hT⟩ (by rw [e0]; rfl) dL_addTrain_14
    · refine z_callXc (wa := []) (wc := wBq y o a S tb x ln sm (sav a) p6) (wb := wO1 y ob g) (As := [.int (iZ b)]) (rest := [.int (iZ 0), .ref ob]) ⟨mx, mb, mml, mo, mts⟩ hK hA hE (fun sz => c_X4_addTrain_t2 l hl0 D sz y o a S tb x ln sm f b hR hI kp h1 h2) (cwV 1 mts gL_addTrain_X4_addTrain rfl rfl rfl (by decide +kernel) ⟨Nat.le_of_ble_eq_true rfl, Nat.le_of_ble_eq_true rfl⟩) rfl 0 rfl rfl rfl rfl rfl (Nat.le_of_ble_eq_true rfl) ⟨Nat.le_of_ble_eq_true rfl, Nat.le_of_ble_eq_true rfl⟩ dL_addTrain_4 [tE (0, 9, 12, 13)] (tE (0, 9, 15, 15)) [] (by rw [hXt]; rfl) (fun z hz => by obtain rfl := List.mem_singleton.mp hz; exact Or.inr ⟨by decide, _, (mts _ (List.mem_of_getElem? (i := 1) rfl)), hE.2.2.1.2.2.1⟩) (by decide) (by decide) (mts _ (List.mem_of_getElem? (i := 2) rfl)) (eW_use (List.mem_of_getElem? (i := 4) rfl) (hE.2.2.2.1 _ (List.mem_of_getElem? (i := 4) rfl))) (tgt := 15) rfl (fun q9 => ?_)
      show Gz pp l ee ({ frames := 8, cells := 1, slots := 6, locals := 134 } : Room) ss mm args below meth cd 4 1 6 Q (Zw D vwCl (va_A wst sz) ss (wBq y o a S tb x ln sm (sav a) p6 ++ wO1 y ob g)) 15 [(0, .ref (o 0)), (1, .int (iZ b)), (2, .ref ob)] [.ref q9]
      refine z_astore_n mx mb dL_addTrain_15 rfl (by decide) [(3, .ref q9), (0, .ref (o 0)), (1, .int (iZ b)), (2, .ref ob)] rfl ?_
      refine z_iconst mx mb dL_addTrain_16 ?_
      rw [hQ]
      exact z_retI mx mb mr mlk hK (a, S, g) ⟨by rw [e0], fun h => absurd (e0.symm.trans h) (by decide), by rw [e0]; exact hT⟩ (by rw [e0]; rfl) dL_addTrain_17
  subst hQ
  subst hw0
  exact hstart

set_option maxRecDepth 100000 in
set_option maxHeartbeats 4000000 in
theorem c_L_takeTrain (l : Launch) (hl0 : l.stackTraces = false) (D : va_G) (sz : Nat) (y : Nat → ClassId) (o : Nat → Nat) (a : Nat → Nat → Nat) (S : Nat → Nat → Int → Int) (tb : Nat → Nat) (x : Int → Int) (ln sm : Int) (f sv : Int → Int) (ob : Nat) (g : Nat → Int64)  (hT : Tie f sv x sm ln S) : Met l yL_takeTrain wsL_takeTrain ({ frames := 7, cells := 1, slots := 6, locals := 133 } : Room) (zPe D vwCl (zT y) (wBq y o a S tb x ln sm (sav a) p6 ++ wO1 y ob g) sz [.ref (o 0), .ref ob]) (va_Qi (fun (r : Int32) (u : (Nat → Nat → Nat) × (Nat → Nat → Int → Int) × (Nat → Int64)) => r = iZ (thTake f) ∧ ((thTake f) = 0 → u.2.2 0 = lZ (wz (f 2 - 1))) ∧ Tie (if thTake f = 0 then zu f 2 (f 2 - 1) else f) (if thTake f = 0 then svS sv f sm else sv) x (if thTake f = 0 then smS sm else sm) ln u.2.1) (zB D vwCl (zT y) (wBq y o a S tb x ln sm (sav a) p6 ++ wO1 y ob g) sz (fun u : (Nat → Nat → Nat) × (Nat → Nat → Int → Int) × (Nat → Int64) => wBq y o u.1 u.2.1 tb x ln (if thTake f = 0 then smS sm else sm) (sav u.1) p6 ++ wO1 y ob u.2.2)) (va_A (wBq y o a S tb x ln sm (sav a) p6 ++ wO1 y ob g) sz)) 1 6 (va_A (wBq y o a S tb x ln sm (sav a) p6 ++ wO1 y ob g) sz) := by
  obtain ⟨⟨hR, hI, kp⟩, hsc, hTS, hl, htx⟩ := id hT
  refine z_headH (cc := cL_takeTrain) (maxL := 3) (ret := some .int) (hh := [(0, 8, 11, 15)]) [(0, .ref (o 0)), (1, .ref ob)] rfl (Nat.le_of_ble_eq_true rfl) (by decide +kernel) rfl ?_
  intro pp ee ss mm below meth cd mx mb mr mml mo mts mlk hK hsz hA hE hXt
  generalize ([.ref (o 0), .ref ob] : List Value).toArray = args at mts ⊢
  obtain ⟨wst, hw0⟩ : ∃ wst, wst = (wBq y o a S tb x ln sm (sav a) p6 ++ wO1 y ob g) := ⟨_, rfl⟩
  replace hE : zE (va_A wst sz) ss ss.heap := by rw [hw0]; exact hE
  replace hA : ∀ q, ss.heap.size ≤ q → va_A wst sz q := by rw [hw0]; exact hA
  obtain ⟨Q, hQ⟩ : ∃ Q, Q = MQ below (va_Qi (fun (r : Int32) (u : (Nat → Nat → Nat) × (Nat → Nat → Int → Int) × (Nat → Int64)) => r = iZ (thTake f) ∧ ((thTake f) = 0 → u.2.2 0 = lZ (wz (f 2 - 1))) ∧ Tie (if thTake f = 0 then zu f 2 (f 2 - 1) else f) (if thTake f = 0 then svS sv f sm else sv) x (if thTake f = 0 then smS sm else sm) ln u.2.1) (zB D vwCl (zT y) wst sz (fun u : (Nat → Nat → Nat) × (Nat → Nat → Int → Int) × (Nat → Int64) => wBq y o u.1 u.2.1 tb x ln (if thTake f = 0 then smS sm else sm) (sav u.1) p6 ++ wO1 y ob u.2.2)) (va_A wst sz)) args ss 1 6 (va_A wst sz) := ⟨_, rfl⟩
  have hstart : Gz pp l ee ({ frames := 7, cells := 1, slots := 6, locals := 133 } : Room) ss mm args below meth cd 3 0 0 Q (Zw D vwCl (va_A wst sz) ss (wBq y o a S tb x ln sm (sav a) p6 ++ wO1 y ob g)) 0 [(0, .ref (o 0)), (1, .ref ob)] [] := by
    refine z_aload_n mx mb dL_takeTrain_0 rfl 1 rfl ?_
    refine z_iconst mx mb dL_takeTrain_1 ?_
    refine z_aload_n mx mb dL_takeTrain_2 rfl 0 rfl ?_
    rcases thTake_c f with ⟨e0, h1⟩ | ⟨e0, h1⟩
    · refine z_callI (wa := []) (wc := wBq y o a S tb x ln sm (sav a) p6) (wb := wO1 y ob g) (As := []) (rest := [.int (iZ 0), .ref ob]) ⟨mx, mb, mml, mo, mts⟩ hK hA (fun sz => c_X4_takeTrain l D sz y o a S tb x ln sm f  hR hI kp hsc h1) (cwV 0 mts gL_takeTrain_X4_takeTrain rfl rfl rfl (by decide +kernel) ⟨Nat.le_of_ble_eq_true rfl, Nat.le_of_ble_eq_true rfl⟩) rfl 0 rfl rfl rfl rfl rfl (Nat.le_of_ble_eq_true rfl) ⟨Nat.le_of_ble_eq_true rfl, Nat.le_of_ble_eq_true rfl⟩ dL_takeTrain_3 (fun r u hu => ?_)
      obtain ⟨a2, S2⟩ := u
      obtain ⟨hr, v0, v1, v2, v3, v4⟩ := hu
      replace v2 : Rel (zu f 2 (f 2 - 1)) (S2 0) := v2
      have tie2 : Tie (zu f 2 (f 2 - 1)) (svS sv f sm) x (smS sm) ln S2 := tie_save hT v2 (take_keep hI kp h1) v3 v4
      obtain rfl : r = iZ (f 2 - 1) := hr
      show Gz pp l ee ({ frames := 7, cells := 1, slots := 6, locals := 133 } : Room) ss mm args below meth cd 3 0 0 Q (Zw D vwCl (va_A wst sz) ss (wBq y o a2 S2 tb x ln (smS sm) (sav a2) p6 ++ wO1 y ob g)) 6 [(0, .ref (o 0)), (1, .ref ob)] [.int (iZ (f 2 - 1)), .int (iZ 0), .ref ob]
      refine z_i2lw mx mb dL_takeTrain_6 ?_
      refine z_last mx mb hK 94 3 rfl rfl dL_takeTrain_7 (wBq y o a2 S2 tb x ln (smS sm) (sav a2) p6 ++ wO1 y ob (vp_updL g 0 (lZ (wz (f 2 - 1))))) rfl ?_
      refine z_goto (tgt := 14) mx mb dL_takeTrain_8 (by decide) ?_
      refine z_iconst mx mb dL_takeTrain_14 ?_
      rw [hQ]
      refine z_widen (k1 := 1) (n1 := 6) (by decide) (by decide) ?_
      exact z_retI mx mb mr mlk hK (a2, S2, vp_updL g 0 (lZ (wz (f 2 - 1)))) ⟨by rw [e0], fun _ => rfl, by rw [e0]; exact tie2⟩ (by rw [e0]; rfl) dL_takeTrain_15
    · refine z_callXc (wa := []) (wc := wBq y o a S tb x ln sm (sav a) p6) (wb := wO1 y ob g) (As := []) (rest := [.int (iZ 0), .ref ob]) ⟨mx, mb, mml, mo, mts⟩ hK hA hE (fun sz => c_X4_takeTrain_t l hl0 D sz y o a S tb x ln sm f  hR hI kp h1) (cwV 0 mts gL_takeTrain_X4_takeTrain rfl rfl rfl (by decide +kernel) ⟨Nat.le_of_ble_eq_true rfl, Nat.le_of_ble_eq_true rfl⟩) rfl 0 rfl rfl rfl rfl rfl (Nat.le_of_ble_eq_true rfl) ⟨Nat.le_of_ble_eq_true rfl, Nat.le_of_ble_eq_true rfl⟩ dL_takeTrain_3 [] (tE (0, 8, 11, 15)) [] (by rw [hXt]; rfl) (fun z hz => nomatch hz) (by decide) (by decide) (mts _ (List.mem_of_getElem? (i := 1) rfl)) (eW_use (List.mem_of_getElem? (i := 4) rfl) (hE.2.2.2.1 _ (List.mem_of_getElem? (i := 4) rfl))) (tgt := 11) rfl (fun q9 => ?_)
      show Gz pp l ee ({ frames := 7, cells := 1, slots := 6, locals := 133 } : Room) ss mm args below meth cd 3 1 6 Q (Zw D vwCl (va_A wst sz) ss (wBq y o a S tb x ln sm (sav a) p6 ++ wO1 y ob g)) 11 [(0, .ref (o 0)), (1, .ref ob)] [.ref q9]
      refine z_astore_n mx mb dL_takeTrain_11 rfl (by decide) [(2, .ref q9), (0, .ref (o 0)), (1, .ref ob)] rfl ?_
      refine z_iconst mx mb dL_takeTrain_12 ?_
      rw [hQ]
      exact z_retI mx mb mr mlk hK (a, S, g) ⟨by rw [e0], fun h => absurd (e0.symm.trans h) (by decide), by rw [e0]; exact hT⟩ (by rw [e0]; rfl) dL_takeTrain_13
  subst hQ
  subst hw0
  exact hstart

set_option maxRecDepth 100000 in
set_option maxHeartbeats 4000000 in
theorem c_L_rescue (l : Launch) (hl0 : l.stackTraces = false) (D : va_G) (sz : Nat) (y : Nat → ClassId) (o : Nat → Nat) (a : Nat → Nat → Nat) (S : Nat → Nat → Int → Int) (tb : Nat → Nat) (x : Int → Int) (ln sm : Int) (f sv : Int → Int) (t : Int) (ob : Nat) (g : Nat → Int64) (h9t : -2147483648 ≤ t ∧ t ≤ 2147483647) (hT : Tie f sv x sm ln S) : Met l yL_rescue wsL_rescue ({ frames := 8, cells := 1, slots := 6, locals := 136 } : Room) (zPe D vwCl (zT y) (wBq y o a S tb x ln sm (sav a) p6 ++ wO1 y ob g) sz [.ref (o 0), .int (iZ t), .ref ob]) (va_Qi (fun (r : Int32) (u : (Nat → Nat → Nat) × (Nat → Nat → Int → Int) × (Nat → Int64)) => r = iZ (thRes f t) ∧ ((thRes f t) = 0 → u.2.2 0 = lZ (wz (f (79 + 8 * t + 0)))) ∧ Tie (if thRes f t = 0 then resT f t else f) (if thRes f t = 0 then svS sv f sm else sv) x (if thRes f t = 0 then smS sm else sm) ln u.2.1) (zB D vwCl (zT y) (wBq y o a S tb x ln sm (sav a) p6 ++ wO1 y ob g) sz (fun u : (Nat → Nat → Nat) × (Nat → Nat → Int → Int) × (Nat → Int64) => wBq y o u.1 u.2.1 tb x ln (if thRes f t = 0 then smS sm else sm) (sav u.1) p6 ++ wO1 y ob u.2.2)) (va_A (wBq y o a S tb x ln sm (sav a) p6 ++ wO1 y ob g) sz)) 1 6 (va_A (wBq y o a S tb x ln sm (sav a) p6 ++ wO1 y ob g) sz) := by
  obtain ⟨⟨hR, hI, kp⟩, hsc, hTS, hl, htx⟩ := id hT
  refine z_headH (cc := cL_rescue) (maxL := 4) (ret := some .int) (hh := [(0, 9, 12, 13), (0, 9, 15, 15)]) [(0, .ref (o 0)), (1, .int (iZ t)), (2, .ref ob)] rfl (Nat.le_of_ble_eq_true rfl) (by decide +kernel) rfl ?_
  intro pp ee ss mm below meth cd mx mb mr mml mo mts mlk hK hsz hA hE hXt
  generalize ([.ref (o 0), .int (iZ t), .ref ob] : List Value).toArray = args at mts ⊢
  obtain ⟨wst, hw0⟩ : ∃ wst, wst = (wBq y o a S tb x ln sm (sav a) p6 ++ wO1 y ob g) := ⟨_, rfl⟩
  replace hE : zE (va_A wst sz) ss ss.heap := by rw [hw0]; exact hE
  replace hA : ∀ q, ss.heap.size ≤ q → va_A wst sz q := by rw [hw0]; exact hA
  obtain ⟨Q, hQ⟩ : ∃ Q, Q = MQ below (va_Qi (fun (r : Int32) (u : (Nat → Nat → Nat) × (Nat → Nat → Int → Int) × (Nat → Int64)) => r = iZ (thRes f t) ∧ ((thRes f t) = 0 → u.2.2 0 = lZ (wz (f (79 + 8 * t + 0)))) ∧ Tie (if thRes f t = 0 then resT f t else f) (if thRes f t = 0 then svS sv f sm else sv) x (if thRes f t = 0 then smS sm else sm) ln u.2.1) (zB D vwCl (zT y) wst sz (fun u : (Nat → Nat → Nat) × (Nat → Nat → Int → Int) × (Nat → Int64) => wBq y o u.1 u.2.1 tb x ln (if thRes f t = 0 then smS sm else sm) (sav u.1) p6 ++ wO1 y ob u.2.2)) (va_A wst sz)) args ss 1 6 (va_A wst sz) := ⟨_, rfl⟩
  have hstart : Gz pp l ee ({ frames := 8, cells := 1, slots := 6, locals := 136 } : Room) ss mm args below meth cd 4 0 0 Q (Zw D vwCl (va_A wst sz) ss (wBq y o a S tb x ln sm (sav a) p6 ++ wO1 y ob g)) 0 [(0, .ref (o 0)), (1, .int (iZ t)), (2, .ref ob)] [] := by
    refine z_aload_n mx mb dL_rescue_0 rfl 2 rfl ?_
    refine z_iconst mx mb dL_rescue_1 ?_
    refine z_aload_n mx mb dL_rescue_2 rfl 0 rfl ?_
    refine z_iload_n mx mb dL_rescue_3 rfl 1 rfl ?_
    rcases thRes_c f t with ⟨e0, h1, h2⟩ | ⟨e0, h1⟩ | ⟨e0, h1, h2⟩
    · refine z_callI (wa := []) (wc := wBq y o a S tb x ln sm (sav a) p6) (wb := wO1 y ob g) (As := [.int (iZ t)]) (rest := [.int (iZ 0), .ref ob]) ⟨mx, mb, mml, mo, mts⟩ hK hA (fun sz => c_X4_rescue l D sz y o a S tb x ln sm f t hR hI kp hsc h1 h2) (cwV 1 mts gL_rescue_X4_rescue rfl rfl rfl (by decide +kernel) ⟨Nat.le_of_ble_eq_true rfl, Nat.le_of_ble_eq_true rfl⟩) rfl 0 rfl rfl rfl rfl rfl (Nat.le_of_ble_eq_true rfl) ⟨Nat.le_of_ble_eq_true rfl, Nat.le_of_ble_eq_true rfl⟩ dL_rescue_4 (fun r u hu => ?_)
      obtain ⟨a2, S2⟩ := u
      obtain ⟨hr, v0, v1, v2, v3, v4⟩ := hu
      replace v2 : Rel (resT f t) (S2 0) := v2
      have tie2 : Tie (resT f t) (svS sv f sm) x (smS sm) ln S2 := tie_save hT v2 (res_keep hI kp h1) v3 v4
      obtain rfl : r = iZ (f (79 + 8 * t + 0)) := hr
      show Gz pp l ee ({ frames := 8, cells := 1, slots := 6, locals := 136 } : Room) ss mm args below meth cd 4 0 0 Q (Zw D vwCl (va_A wst sz) ss (wBq y o a2 S2 tb x ln (smS sm) (sav a2) p6 ++ wO1 y ob g)) 7 [(0, .ref (o 0)), (1, .int (iZ t)), (2, .ref ob)] [.int (iZ (f (79 + 8 * t + 0))), .int (iZ 0), .ref ob]
      refine z_i2lw mx mb dL_rescue_7 ?_
      refine z_last mx mb hK 94 3 rfl rfl dL_rescue_8 (wBq y o a2 S2 tb x ln (smS sm) (sav a2) p6 ++ wO1 y ob (vp_updL g 0 (lZ (wz (f (79 + 8 * t + 0)))))) rfl ?_
      refine z_goto (tgt := 18) mx mb dL_rescue_9 (by decide) ?_
      refine z_iconst mx mb dL_rescue_18 ?_
      rw [hQ]
      refine z_widen (k1 := 1) (n1 := 6) (by decide) (by decide) ?_
      exact z_retI mx mb mr mlk hK (a2, S2, vp_updL g 0 (lZ (wz (f (79 + 8 * t + 0))))) ⟨by rw [e0], fun _ => rfl, by rw [e0]; exact tie2⟩ (by rw [e0]; rfl) dL_rescue_19
    · refine z_callXc (wa := []) (wc := wBq y o a S tb x ln sm (sav a) p6) (wb := wO1 y ob g) (As := [.int (iZ t)]) (rest := [.int (iZ 0), .ref ob]) ⟨mx, mb, mml, mo, mts⟩ hK hA hE (fun sz => c_X4_rescue_t1 l hl0 D sz y o a S tb x ln sm f t hR hI kp h9t h1) (cwV 1 mts gL_rescue_X4_rescue rfl rfl rfl (by decide +kernel) ⟨Nat.le_of_ble_eq_true rfl, Nat.le_of_ble_eq_true rfl⟩) rfl 0 rfl rfl rfl rfl rfl (Nat.le_of_ble_eq_true rfl) ⟨Nat.le_of_ble_eq_true rfl, Nat.le_of_ble_eq_true rfl⟩ dL_rescue_4 [] (tE (0, 9, 12, 13)) [tE (0, 9, 15, 15)] (by rw [hXt]; rfl) (fun z hz => nomatch hz) (by decide) (by decide) (mts _ (List.mem_of_getElem? (i := 1) rfl)) (eW_use (List.mem_of_getElem? (i := 3) rfl) (hE.2.2.2.1 _ (List.mem_of_getElem? (i := 3) rfl))) (tgt := 12) rfl (fun q9 => ?_)
      show Gz pp l ee ({ frames := 8, cells := 1, slots := 6, locals := 136 } : Room) ss mm args below meth cd 4 1 6 Q (Zw D vwCl (va_A wst sz) ss (wBq y o a S tb x ln sm (sav a) p6 ++ wO1 y ob g)) 12 [(0, .ref (o 0)), (1, .int (iZ t)), (2, .ref ob)] [.ref q9]
      refine z_astore_n mx mb dL_rescue_12 rfl (by decide) [(3, .ref q9), (0, .ref (o 0)), (1, .int (iZ t)), (2, .ref ob)] rfl ?_
      refine z_iconst mx mb dL_rescue_13 ?_
      rw [hQ]
      exact z_retI mx mb mr mlk hK (a, S, g) ⟨by rw [e0], fun h => absurd (e0.symm.trans h) (by decide), by rw [e0]; exact hT⟩ (by rw [e0]; rfl) dL_rescue_14
    · refine z_callXc (wa := []) (wc := wBq y o a S tb x ln sm (sav a) p6) (wb := wO1 y ob g) (As := [.int (iZ t)]) (rest := [.int (iZ 0), .ref ob]) ⟨mx, mb, mml, mo, mts⟩ hK hA hE (fun sz => c_X4_rescue_t2 l hl0 D sz y o a S tb x ln sm f t hR hI kp h1 h2) (cwV 1 mts gL_rescue_X4_rescue rfl rfl rfl (by decide +kernel) ⟨Nat.le_of_ble_eq_true rfl, Nat.le_of_ble_eq_true rfl⟩) rfl 0 rfl rfl rfl rfl rfl (Nat.le_of_ble_eq_true rfl) ⟨Nat.le_of_ble_eq_true rfl, Nat.le_of_ble_eq_true rfl⟩ dL_rescue_4 [tE (0, 9, 12, 13)] (tE (0, 9, 15, 15)) [] (by rw [hXt]; rfl) (fun z hz => by obtain rfl := List.mem_singleton.mp hz; exact Or.inr ⟨by decide, _, (mts _ (List.mem_of_getElem? (i := 1) rfl)), hE.2.2.1.2.2.1⟩) (by decide) (by decide) (mts _ (List.mem_of_getElem? (i := 2) rfl)) (eW_use (List.mem_of_getElem? (i := 4) rfl) (hE.2.2.2.1 _ (List.mem_of_getElem? (i := 4) rfl))) (tgt := 15) rfl (fun q9 => ?_)
      show Gz pp l ee ({ frames := 8, cells := 1, slots := 6, locals := 136 } : Room) ss mm args below meth cd 4 1 6 Q (Zw D vwCl (va_A wst sz) ss (wBq y o a S tb x ln sm (sav a) p6 ++ wO1 y ob g)) 15 [(0, .ref (o 0)), (1, .int (iZ t)), (2, .ref ob)] [.ref q9]
      refine z_astore_n mx mb dL_rescue_15 rfl (by decide) [(3, .ref q9), (0, .ref (o 0)), (1, .int (iZ t)), (2, .ref ob)] rfl ?_
      refine z_iconst mx mb dL_rescue_16 ?_
      rw [hQ]
      exact z_retI mx mb mr mlk hK (a, S, g) ⟨by rw [e0], fun h => absurd (e0.symm.trans h) (by decide), by rw [e0]; exact hT⟩ (by rw [e0]; rfl) dL_rescue_17
  subst hQ
  subst hw0
  exact hstart

set_option maxRecDepth 100000 in
set_option maxHeartbeats 4000000 in
theorem c_L_set (l : Launch) (hl0 : l.stackTraces = false) (D : va_G) (sz : Nat) (y : Nat → ClassId) (o : Nat → Nat) (a : Nat → Nat → Nat) (S : Nat → Nat → Int → Int) (tb : Nat → Nat) (x : Int → Int) (ln sm : Int) (f sv : Int → Int) (w v : Int) (ob : Nat) (g : Nat → Int64) (h9w : -2147483648 ≤ w ∧ w ≤ 2147483647) (h9v : -2147483648 ≤ v ∧ v ≤ 2147483647) (hT : Tie f sv x sm ln S) : Met l yL_set wsL_set ({ frames := 7, cells := 1, slots := 6, locals := 136 } : Room) (zPe D vwCl (zT y) (wBq y o a S tb x ln sm (sav a) p6 ++ wO1 y ob g) sz [.ref (o 0), .int (iZ w), .int (iZ v), .ref ob]) (va_Qi (fun (r : Int32) (u : (Nat → Nat → Nat) × (Nat → Nat → Int → Int) × (Nat → Int64)) => r = iZ (thSet w v) ∧ ((thSet w v) = 0 → u.2.2 0 = lZ (wz (f (4 + w)))) ∧ Tie (if thSet w v = 0 then zu f (4 + w) v else f) (if thSet w v = 0 then svS sv f sm else sv) x (if thSet w v = 0 then smS sm else sm) ln u.2.1) (zB D vwCl (zT y) (wBq y o a S tb x ln sm (sav a) p6 ++ wO1 y ob g) sz (fun u : (Nat → Nat → Nat) × (Nat → Nat → Int → Int) × (Nat → Int64) => wBq y o u.1 u.2.1 tb x ln (if thSet w v = 0 then smS sm else sm) (sav u.1) p6 ++ wO1 y ob u.2.2)) (va_A (wBq y o a S tb x ln sm (sav a) p6 ++ wO1 y ob g) sz)) 1 6 (va_A (wBq y o a S tb x ln sm (sav a) p6 ++ wO1 y ob g) sz) := by
  obtain ⟨⟨hR, hI, kp⟩, hsc, hTS, hl, htx⟩ := id hT
  refine z_headH (cc := cL_set) (maxL := 5) (ret := some .int) (hh := [(0, 10, 13, 13), (0, 10, 17, 28)]) [(0, .ref (o 0)), (1, .int (iZ w)), (2, .int (iZ v)), (3, .ref ob)] rfl (Nat.le_of_ble_eq_true rfl) (by decide +kernel) rfl ?_
  intro pp ee ss mm below meth cd mx mb mr mml mo mts mlk hK hsz hA hE hXt
  generalize ([.ref (o 0), .int (iZ w), .int (iZ v), .ref ob] : List Value).toArray = args at mts ⊢
  obtain ⟨wst, hw0⟩ : ∃ wst, wst = (wBq y o a S tb x ln sm (sav a) p6 ++ wO1 y ob g) := ⟨_, rfl⟩
  replace hE : zE (va_A wst sz) ss ss.heap := by rw [hw0]; exact hE
  replace hA : ∀ q, ss.heap.size ≤ q → va_A wst sz q := by rw [hw0]; exact hA
  obtain ⟨Q, hQ⟩ : ∃ Q, Q = MQ below (va_Qi (fun (r : Int32) (u : (Nat → Nat → Nat) × (Nat → Nat → Int → Int) × (Nat → Int64)) => r = iZ (thSet w v) ∧ ((thSet w v) = 0 → u.2.2 0 = lZ (wz (f (4 + w)))) ∧ Tie (if thSet w v = 0 then zu f (4 + w) v else f) (if thSet w v = 0 then svS sv f sm else sv) x (if thSet w v = 0 then smS sm else sm) ln u.2.1) (zB D vwCl (zT y) wst sz (fun u : (Nat → Nat → Nat) × (Nat → Nat → Int → Int) × (Nat → Int64) => wBq y o u.1 u.2.1 tb x ln (if thSet w v = 0 then smS sm else sm) (sav u.1) p6 ++ wO1 y ob u.2.2)) (va_A wst sz)) args ss 1 6 (va_A wst sz) := ⟨_, rfl⟩
  have hstart : Gz pp l ee ({ frames := 7, cells := 1, slots := 6, locals := 136 } : Room) ss mm args below meth cd 5 0 0 Q (Zw D vwCl (va_A wst sz) ss (wBq y o a S tb x ln sm (sav a) p6 ++ wO1 y ob g)) 0 [(0, .ref (o 0)), (1, .int (iZ w)), (2, .int (iZ v)), (3, .ref ob)] [] := by
    refine z_aload_n mx mb dL_set_0 rfl 3 rfl ?_
    refine z_iconst mx mb dL_set_1 ?_
    refine z_aload_n mx mb dL_set_2 rfl 0 rfl ?_
    refine z_iload_n mx mb dL_set_3 rfl 1 rfl ?_
    refine z_iload_n mx mb dL_set_4 rfl 2 rfl ?_
    rcases thSet_c w v with e0 | e0 | e0
    · refine z_callIE (wa := []) (wc := wBq y o a S tb x ln sm (sav a) p6) (wb := wO1 y ob g) (As := [.int (iZ w), .int (iZ v)]) (rest := [.int (iZ 0), .ref ob]) ⟨mx, mb, mml, mo, mts⟩ hK hA hE (fun sz => c_X4_set l D sz y o a S tb x ln sm f w v hR hI kp hsc h9v e0) (cwV 2 mts gL_set_X4_set rfl rfl rfl (by decide +kernel) ⟨Nat.le_of_ble_eq_true rfl, Nat.le_of_ble_eq_true rfl⟩) rfl 0 rfl rfl rfl rfl rfl (Nat.le_of_ble_eq_true rfl) ⟨Nat.le_of_ble_eq_true rfl, Nat.le_of_ble_eq_true rfl⟩ dL_set_5 (fun r u hu => ?_)
      obtain ⟨a2, S2⟩ := u
      obtain ⟨hr, v0, v1, v2, v3, v4⟩ := hu
      replace v2 : Rel (zu f (4 + w) v) (S2 0) := v2
      have tie2 : Tie (zu f (4 + w) v) (svS sv f sm) x (smS sm) ln S2 := tie_save hT v2 (set_keep hI kp (thSet_0 e0).1 ((set_can (thSet_0 e0).1).mpr (thSet_0 e0).2)) v3 v4
      obtain rfl : r = iZ (f (4 + w)) := hr
      show Gz pp l ee ({ frames := 7, cells := 1, slots := 6, locals := 136 } : Room) ss mm args below meth cd 5 0 0 Q (Zw D vwCl (va_A wst sz) ss (wBq y o a2 S2 tb x ln (smS sm) (sav a2) p6 ++ wO1 y ob g)) 8 [(0, .ref (o 0)), (1, .int (iZ w)), (2, .int (iZ v)), (3, .ref ob)] [.int (iZ (f (4 + w))), .int (iZ 0), .ref ob]
      refine z_i2lw mx mb dL_set_8 ?_
      refine z_last mx mb hK 94 3 rfl rfl dL_set_9 (wBq y o a2 S2 tb x ln (smS sm) (sav a2) p6 ++ wO1 y ob (vp_updL g 0 (lZ (wz (f (4 + w)))))) rfl ?_
      refine z_goto (tgt := 21) mx mb dL_set_10 (by decide) ?_
      refine z_iconst mx mb dL_set_21 ?_
      rw [hQ]
      refine z_widen (k1 := 1) (n1 := 6) (by decide) (by decide) ?_
      exact z_retI mx mb mr mlk hK (a2, S2, vp_updL g 0 (lZ (wz (f (4 + w))))) ⟨by rw [e0], fun _ => rfl, by rw [e0]; exact tie2⟩ (by rw [e0]; rfl) dL_set_22
    · refine z_callXc (wa := []) (wc := wBq y o a S tb x ln sm (sav a) p6) (wb := wO1 y ob g) (As := [.int (iZ w), .int (iZ v)]) (rest := [.int (iZ 0), .ref ob]) ⟨mx, mb, mml, mo, mts⟩ hK hA hE (fun sz => c_X4_set_t1 l hl0 D sz y o a S tb x ln sm f w v hR hI kp h9w h9v e0) (cwV 2 mts gL_set_X4_set rfl rfl rfl (by decide +kernel) ⟨Nat.le_of_ble_eq_true rfl, Nat.le_of_ble_eq_true rfl⟩) rfl 0 rfl rfl rfl rfl rfl (Nat.le_of_ble_eq_true rfl) ⟨Nat.le_of_ble_eq_true rfl, Nat.le_of_ble_eq_true rfl⟩ dL_set_5 [] (tE (0, 10, 13, 13)) [tE (0, 10, 17, 28)] (by rw [hXt]; rfl) (fun z hz => nomatch hz) (by decide) (by decide) (mts _ (List.mem_of_getElem? (i := 1) rfl)) (eW_use (List.mem_of_getElem? (i := 3) rfl) (hE.2.2.2.1 _ (List.mem_of_getElem? (i := 3) rfl))) (tgt := 13) rfl (fun q9 => ?_)
      show Gz pp l ee ({ frames := 7, cells := 1, slots := 6, locals := 136 } : Room) ss mm args below meth cd 5 1 6 Q (Zw D vwCl (va_A wst sz) ss (wBq y o a S tb x ln sm (sav a) p6 ++ wO1 y ob g)) 13 [(0, .ref (o 0)), (1, .int (iZ w)), (2, .int (iZ v)), (3, .ref ob)] [.ref q9]
      refine z_astore mx mb dL_set_13 (by decide) [(4, .ref q9), (0, .ref (o 0)), (1, .int (iZ w)), (2, .int (iZ v)), (3, .ref ob)] rfl ?_
      refine z_iconst mx mb dL_set_15 ?_
      rw [hQ]
      exact z_retI mx mb mr mlk hK (a, S, g) ⟨by rw [e0], fun h => absurd (e0.symm.trans h) (by decide), by rw [e0]; exact hT⟩ (by rw [e0]; rfl) dL_set_16
    · refine z_callXc (wa := []) (wc := wBq y o a S tb x ln sm (sav a) p6) (wb := wO1 y ob g) (As := [.int (iZ w), .int (iZ v)]) (rest := [.int (iZ 0), .ref ob]) ⟨mx, mb, mml, mo, mts⟩ hK hA hE (fun sz => c_X4_set_t2 l hl0 D sz y o a S tb x ln sm f w v hR hI kp h9w h9v e0) (cwV 2 mts gL_set_X4_set rfl rfl rfl (by decide +kernel) ⟨Nat.le_of_ble_eq_true rfl, Nat.le_of_ble_eq_true rfl⟩) rfl 0 rfl rfl rfl rfl rfl (Nat.le_of_ble_eq_true rfl) ⟨Nat.le_of_ble_eq_true rfl, Nat.le_of_ble_eq_true rfl⟩ dL_set_5 [tE (0, 10, 13, 13)] (tE (0, 10, 17, 28)) [] (by rw [hXt]; rfl) (fun z hz => by obtain rfl := List.mem_singleton.mp hz; exact Or.inr ⟨by decide, _, (mts _ (List.mem_of_getElem? (i := 1) rfl)), hE.2.2.1.2.2.2.1⟩) (by decide) (by decide) (mts _ (List.mem_of_getElem? (i := 2) rfl)) (eW_use (List.mem_of_getElem? (i := 5) rfl) (hE.2.2.2.1 _ (List.mem_of_getElem? (i := 5) rfl))) (tgt := 17) rfl (fun q9 => ?_)
      show Gz pp l ee ({ frames := 7, cells := 1, slots := 6, locals := 136 } : Room) ss mm args below meth cd 5 1 6 Q (Zw D vwCl (va_A wst sz) ss (wBq y o a S tb x ln sm (sav a) p6 ++ wO1 y ob g)) 17 [(0, .ref (o 0)), (1, .int (iZ w)), (2, .int (iZ v)), (3, .ref ob)] [.ref q9]
      refine z_astore mx mb dL_set_17 (by decide) [(4, .ref q9), (0, .ref (o 0)), (1, .int (iZ w)), (2, .int (iZ v)), (3, .ref ob)] rfl ?_
      refine z_iconst mx mb dL_set_19 ?_
      rw [hQ]
      exact z_retI mx mb mr mlk hK (a, S, g) ⟨by rw [e0], fun h => absurd (e0.symm.trans h) (by decide), by rw [e0]; exact hT⟩ (by rw [e0]; rfl) dL_set_20
  subst hQ
  subst hw0
  exact hstart

set_option maxRecDepth 100000 in
set_option maxHeartbeats 4000000 in
theorem c_L_setHeight (l : Launch) (hl0 : l.stackTraces = false) (D : va_G) (sz : Nat) (y : Nat → ClassId) (o : Nat → Nat) (a : Nat → Nat → Nat) (S : Nat → Nat → Int → Int) (tb : Nat → Nat) (x : Int → Int) (ln sm : Int) (f sv : Int → Int) (c z : Int) (ob : Nat) (g : Nat → Int64) (h9c : -2147483648 ≤ c ∧ c ≤ 2147483647) (h9z : -2147483648 ≤ z ∧ z ≤ 2147483647) (hT : Tie f sv x sm ln S) : Met l yL_setHeight wsL_setHeight ({ frames := 8, cells := 1, slots := 6, locals := 136 } : Room) (zPe D vwCl (zT y) (wBq y o a S tb x ln sm (sav a) p6 ++ wO1 y ob g) sz [.ref (o 0), .int (iZ c), .int (iZ z), .ref ob]) (va_Qi (fun (r : Int32) (u : (Nat → Nat → Nat) × (Nat → Nat → Int → Int) × (Nat → Int64)) => r = iZ (thHgt f c z) ∧ ((thHgt f c z) = 0 → u.2.2 0 = lZ (wz (f (11 + c)))) ∧ Tie (if thHgt f c z = 0 then zu f (11 + c) z else f) (if thHgt f c z = 0 then svS sv f sm else sv) x (if thHgt f c z = 0 then smS sm else sm) ln u.2.1) (zB D vwCl (zT y) (wBq y o a S tb x ln sm (sav a) p6 ++ wO1 y ob g) sz (fun u : (Nat → Nat → Nat) × (Nat → Nat → Int → Int) × (Nat → Int64) => wBq y o u.1 u.2.1 tb x ln (if thHgt f c z = 0 then smS sm else sm) (sav u.1) p6 ++ wO1 y ob u.2.2)) (va_A (wBq y o a S tb x ln sm (sav a) p6 ++ wO1 y ob g) sz)) 1 6 (va_A (wBq y o a S tb x ln sm (sav a) p6 ++ wO1 y ob g) sz) := by
  obtain ⟨⟨hR, hI, kp⟩, hsc, hTS, hl, htx⟩ := id hT
  refine z_headH (cc := cL_setHeight) (maxL := 5) (ret := some .int) (hh := [(0, 10, 13, 13), (0, 10, 17, 28)]) [(0, .ref (o 0)), (1, .int (iZ c)), (2, .int (iZ z)), (3, .ref ob)] rfl (Nat.le_of_ble_eq_true rfl) (by decide +kernel) rfl ?_
  intro pp ee ss mm below meth cd mx mb mr mml mo mts mlk hK hsz hA hE hXt
  generalize ([.ref (o 0), .int (iZ c), .int (iZ z), .ref ob] : List Value).toArray = args at mts ⊢
  obtain ⟨wst, hw0⟩ : ∃ wst, wst = (wBq y o a S tb x ln sm (sav a) p6 ++ wO1 y ob g) := ⟨_, rfl⟩
  replace hE : zE (va_A wst sz) ss ss.heap := by rw [hw0]; exact hE
  replace hA : ∀ q, ss.heap.size ≤ q → va_A wst sz q := by rw [hw0]; exact hA
  obtain ⟨Q, hQ⟩ : ∃ Q, Q = MQ below (va_Qi (fun (r : Int32) (u : (Nat → Nat → Nat) × (Nat → Nat → Int → Int) × (Nat → Int64)) => r = iZ (thHgt f c z) ∧ ((thHgt f c z) = 0 → u.2.2 0 = lZ (wz (f (11 + c)))) ∧ Tie (if thHgt f c z = 0 then zu f (11 + c) z else f) (if thHgt f c z = 0 then svS sv f sm else sv) x (if thHgt f c z = 0 then smS sm else sm) ln u.2.1) (zB D vwCl (zT y) wst sz (fun u : (Nat → Nat → Nat) × (Nat → Nat → Int → Int) × (Nat → Int64) => wBq y o u.1 u.2.1 tb x ln (if thHgt f c z = 0 then smS sm else sm) (sav u.1) p6 ++ wO1 y ob u.2.2)) (va_A wst sz)) args ss 1 6 (va_A wst sz) := ⟨_, rfl⟩
  have hstart : Gz pp l ee ({ frames := 8, cells := 1, slots := 6, locals := 136 } : Room) ss mm args below meth cd 5 0 0 Q (Zw D vwCl (va_A wst sz) ss (wBq y o a S tb x ln sm (sav a) p6 ++ wO1 y ob g)) 0 [(0, .ref (o 0)), (1, .int (iZ c)), (2, .int (iZ z)), (3, .ref ob)] [] := by
    refine z_aload_n mx mb dL_setHeight_0 rfl 3 rfl ?_
    refine z_iconst mx mb dL_setHeight_1 ?_
    refine z_aload_n mx mb dL_setHeight_2 rfl 0 rfl ?_
    refine z_iload_n mx mb dL_setHeight_3 rfl 1 rfl ?_
    refine z_iload_n mx mb dL_setHeight_4 rfl 2 rfl ?_
    rcases thHgt_c f c z with ⟨e0, h1, h2⟩ | ⟨e0, h1⟩ | ⟨e0, h1, h2⟩
    · refine z_callI (wa := []) (wc := wBq y o a S tb x ln sm (sav a) p6) (wb := wO1 y ob g) (As := [.int (iZ c), .int (iZ z)]) (rest := [.int (iZ 0), .ref ob]) ⟨mx, mb, mml, mo, mts⟩ hK hA (fun sz => c_X4_setHeight l D sz y o a S tb x ln sm f c z hR hI kp hsc h1 h2) (cwV 2 mts gL_setHeight_X4_setHeight rfl rfl rfl (by decide +kernel) ⟨Nat.le_of_ble_eq_true rfl, Nat.le_of_ble_eq_true rfl⟩) rfl 0 rfl rfl rfl rfl rfl (Nat.le_of_ble_eq_true rfl) ⟨Nat.le_of_ble_eq_true rfl, Nat.le_of_ble_eq_true rfl⟩ dL_setHeight_5 (fun r u hu => ?_)
      obtain ⟨a2, S2⟩ := u
      obtain ⟨hr, v0, v1, v2, v3, v4⟩ := hu
      replace v2 : Rel (zu f (11 + c) z) (S2 0) := v2
      have tie2 : Tie (zu f (11 + c) z) (svS sv f sm) x (smS sm) ln S2 := tie_save hT v2 (hgt_keep hI kp h1 h2) v3 v4
      obtain rfl : r = iZ (f (11 + c)) := hr
      show Gz pp l ee ({ frames := 8, cells := 1, slots := 6, locals := 136 } : Room) ss mm args below meth cd 5 0 0 Q (Zw D vwCl (va_A wst sz) ss (wBq y o a2 S2 tb x ln (smS sm) (sav a2) p6 ++ wO1 y ob g)) 8 [(0, .ref (o 0)), (1, .int (iZ c)), (2, .int (iZ z)), (3, .ref ob)] [.int (iZ (f (11 + c))), .int (iZ 0), .ref ob]
      refine z_i2lw mx mb dL_setHeight_8 ?_
      refine z_last mx mb hK 94 3 rfl rfl dL_setHeight_9 (wBq y o a2 S2 tb x ln (smS sm) (sav a2) p6 ++ wO1 y ob (vp_updL g 0 (lZ (wz (f (11 + c)))))) rfl ?_
      refine z_goto (tgt := 21) mx mb dL_setHeight_10 (by decide) ?_
      refine z_iconst mx mb dL_setHeight_21 ?_
      rw [hQ]
      refine z_widen (k1 := 1) (n1 := 6) (by decide) (by decide) ?_
      exact z_retI mx mb mr mlk hK (a2, S2, vp_updL g 0 (lZ (wz (f (11 + c))))) ⟨by rw [e0], fun _ => rfl, by rw [e0]; exact tie2⟩ (by rw [e0]; rfl) dL_setHeight_22
    · refine z_callXc (wa := []) (wc := wBq y o a S tb x ln sm (sav a) p6) (wb := wO1 y ob g) (As := [.int (iZ c), .int (iZ z)]) (rest := [.int (iZ 0), .ref ob]) ⟨mx, mb, mml, mo, mts⟩ hK hA hE (fun sz => c_X4_setHeight_t1 l hl0 D sz y o a S tb x ln sm f c z hR hI kp h9c h9z h1) (cwV 2 mts gL_setHeight_X4_setHeight rfl rfl rfl (by decide +kernel) ⟨Nat.le_of_ble_eq_true rfl, Nat.le_of_ble_eq_true rfl⟩) rfl 0 rfl rfl rfl rfl rfl (Nat.le_of_ble_eq_true rfl) ⟨Nat.le_of_ble_eq_true rfl, Nat.le_of_ble_eq_true rfl⟩ dL_setHeight_5 [] (tE (0, 10, 13, 13)) [tE (0, 10, 17, 28)] (by rw [hXt]; rfl) (fun z hz => nomatch hz) (by decide) (by decide) (mts _ (List.mem_of_getElem? (i := 1) rfl)) (eW_use (List.mem_of_getElem? (i := 3) rfl) (hE.2.2.2.1 _ (List.mem_of_getElem? (i := 3) rfl))) (tgt := 13) rfl (fun q9 => ?_)
      show Gz pp l ee ({ frames := 8, cells := 1, slots := 6, locals := 136 } : Room) ss mm args below meth cd 5 1 6 Q (Zw D vwCl (va_A wst sz) ss (wBq y o a S tb x ln sm (sav a) p6 ++ wO1 y ob g)) 13 [(0, .ref (o 0)), (1, .int (iZ c)), (2, .int (iZ z)), (3, .ref ob)] [.ref q9]
      refine z_astore mx mb dL_setHeight_13 (by decide) [(4, .ref q9), (0, .ref (o 0)), (1, .int (iZ c)), (2, .int (iZ z)), (3, .ref ob)] rfl ?_
      refine z_iconst mx mb dL_setHeight_15 ?_
      rw [hQ]
      exact z_retI mx mb mr mlk hK (a, S, g) ⟨by rw [e0], fun h => absurd (e0.symm.trans h) (by decide), by rw [e0]; exact hT⟩ (by rw [e0]; rfl) dL_setHeight_16
    · refine z_callXc (wa := []) (wc := wBq y o a S tb x ln sm (sav a) p6) (wb := wO1 y ob g) (As := [.int (iZ c), .int (iZ z)]) (rest := [.int (iZ 0), .ref ob]) ⟨mx, mb, mml, mo, mts⟩ hK hA hE (fun sz => c_X4_setHeight_t2 l hl0 D sz y o a S tb x ln sm f c z hR hI kp h9z h1 h2) (cwV 2 mts gL_setHeight_X4_setHeight rfl rfl rfl (by decide +kernel) ⟨Nat.le_of_ble_eq_true rfl, Nat.le_of_ble_eq_true rfl⟩) rfl 0 rfl rfl rfl rfl rfl (Nat.le_of_ble_eq_true rfl) ⟨Nat.le_of_ble_eq_true rfl, Nat.le_of_ble_eq_true rfl⟩ dL_setHeight_5 [tE (0, 10, 13, 13)] (tE (0, 10, 17, 28)) [] (by rw [hXt]; rfl) (fun z hz => by obtain rfl := List.mem_singleton.mp hz; exact Or.inr ⟨by decide, _, (mts _ (List.mem_of_getElem? (i := 1) rfl)), hE.2.2.1.2.2.2.1⟩) (by decide) (by decide) (mts _ (List.mem_of_getElem? (i := 2) rfl)) (eW_use (List.mem_of_getElem? (i := 5) rfl) (hE.2.2.2.1 _ (List.mem_of_getElem? (i := 5) rfl))) (tgt := 17) rfl (fun q9 => ?_)
      show Gz pp l ee ({ frames := 8, cells := 1, slots := 6, locals := 136 } : Room) ss mm args below meth cd 5 1 6 Q (Zw D vwCl (va_A wst sz) ss (wBq y o a S tb x ln sm (sav a) p6 ++ wO1 y ob g)) 17 [(0, .ref (o 0)), (1, .int (iZ c)), (2, .int (iZ z)), (3, .ref ob)] [.ref q9]
      refine z_astore mx mb dL_setHeight_17 (by decide) [(4, .ref q9), (0, .ref (o 0)), (1, .int (iZ c)), (2, .int (iZ z)), (3, .ref ob)] rfl ?_
      refine z_iconst mx mb dL_setHeight_19 ?_
      rw [hQ]
      exact z_retI mx mb mr mlk hK (a, S, g) ⟨by rw [e0], fun h => absurd (e0.symm.trans h) (by decide), by rw [e0]; exact hT⟩ (by rw [e0]; rfl) dL_setHeight_20
  subst hQ
  subst hw0
  exact hstart

set_option maxRecDepth 100000 in
set_option maxHeartbeats 4000000 in
theorem c_L_pass (l : Launch) (hl0 : l.stackTraces = false) (D : va_G) (sz : Nat) (y : Nat → ClassId) (o : Nat → Nat) (a : Nat → Nat → Nat) (S : Nat → Nat → Int → Int) (tb : Nat → Nat) (x : Int → Int) (ln sm : Int) (f sv : Int → Int) (n : Int) (ob : Nat) (g : Nat → Int64) (h9n : -2147483648 ≤ n ∧ n ≤ 2147483647) (hT : Tie f sv x sm ln S) : Met l yL_pass wsL_pass ({ frames := 7, cells := 1, slots := 6, locals := 136 } : Room) (zPe D vwCl (zT y) (wBq y o a S tb x ln sm (sav a) p6 ++ wO1 y ob g) sz [.ref (o 0), .int (iZ n), .ref ob]) (va_Qi (fun (r : Int32) (u : (Nat → Nat → Nat) × (Nat → Nat → Int → Int) × (Nat → Int64)) => r = iZ (thPass f n) ∧ ((thPass f n) = 0 → u.2.2 0 = lZ (wz (ticks f n.toNat 8 - f 8))) ∧ Tie (if thPass f n = 0 then ticks f n.toNat else f) (if thPass f n = 0 then svS sv f sm else sv) x (if thPass f n = 0 then smS sm else sm) ln u.2.1) (zB D vwCl (zT y) (wBq y o a S tb x ln sm (sav a) p6 ++ wO1 y ob g) sz (fun u : (Nat → Nat → Nat) × (Nat → Nat → Int → Int) × (Nat → Int64) => wBq y o u.1 u.2.1 tb x ln (if thPass f n = 0 then smS sm else sm) (sav u.1) p6 ++ wO1 y ob u.2.2)) (va_A (wBq y o a S tb x ln sm (sav a) p6 ++ wO1 y ob g) sz)) 1 6 (va_A (wBq y o a S tb x ln sm (sav a) p6 ++ wO1 y ob g) sz) := by
  obtain ⟨⟨hR, hI, kp⟩, hsc, hTS, hl, htx⟩ := id hT
  refine z_headH (cc := cL_pass) (maxL := 4) (ret := some .int) (hh := [(0, 9, 12, 28), (0, 9, 15, 15)]) [(0, .ref (o 0)), (1, .int (iZ n)), (2, .ref ob)] rfl (Nat.le_of_ble_eq_true rfl) (by decide +kernel) rfl ?_
  intro pp ee ss mm below meth cd mx mb mr mml mo mts mlk hK hsz hA hE hXt
  generalize ([.ref (o 0), .int (iZ n), .ref ob] : List Value).toArray = args at mts ⊢
  obtain ⟨wst, hw0⟩ : ∃ wst, wst = (wBq y o a S tb x ln sm (sav a) p6 ++ wO1 y ob g) := ⟨_, rfl⟩
  replace hE : zE (va_A wst sz) ss ss.heap := by rw [hw0]; exact hE
  replace hA : ∀ q, ss.heap.size ≤ q → va_A wst sz q := by rw [hw0]; exact hA
  obtain ⟨Q, hQ⟩ : ∃ Q, Q = MQ below (va_Qi (fun (r : Int32) (u : (Nat → Nat → Nat) × (Nat → Nat → Int → Int) × (Nat → Int64)) => r = iZ (thPass f n) ∧ ((thPass f n) = 0 → u.2.2 0 = lZ (wz (ticks f n.toNat 8 - f 8))) ∧ Tie (if thPass f n = 0 then ticks f n.toNat else f) (if thPass f n = 0 then svS sv f sm else sv) x (if thPass f n = 0 then smS sm else sm) ln u.2.1) (zB D vwCl (zT y) wst sz (fun u : (Nat → Nat → Nat) × (Nat → Nat → Int → Int) × (Nat → Int64) => wBq y o u.1 u.2.1 tb x ln (if thPass f n = 0 then smS sm else sm) (sav u.1) p6 ++ wO1 y ob u.2.2)) (va_A wst sz)) args ss 1 6 (va_A wst sz) := ⟨_, rfl⟩
  have hstart : Gz pp l ee ({ frames := 7, cells := 1, slots := 6, locals := 136 } : Room) ss mm args below meth cd 4 0 0 Q (Zw D vwCl (va_A wst sz) ss (wBq y o a S tb x ln sm (sav a) p6 ++ wO1 y ob g)) 0 [(0, .ref (o 0)), (1, .int (iZ n)), (2, .ref ob)] [] := by
    refine z_aload_n mx mb dL_pass_0 rfl 2 rfl ?_
    refine z_iconst mx mb dL_pass_1 ?_
    refine z_aload_n mx mb dL_pass_2 rfl 0 rfl ?_
    refine z_iload_n mx mb dL_pass_3 rfl 1 rfl ?_
    rcases thPass_c f n with ⟨e0, h1, h2⟩ | ⟨e0, h1⟩ | ⟨e0, h1, h2⟩
    · refine z_callI (wa := []) (wc := wBq y o a S tb x ln sm (sav a) p6) (wb := wO1 y ob g) (As := [.int (iZ n)]) (rest := [.int (iZ 0), .ref ob]) ⟨mx, mb, mml, mo, mts⟩ hK hA (fun sz => c_X4_pass l D sz y o a S tb x ln sm f n hR hI kp hsc h1 h2) (cwV 1 mts gL_pass_X4_pass rfl rfl rfl (by decide +kernel) ⟨Nat.le_of_ble_eq_true rfl, Nat.le_of_ble_eq_true rfl⟩) rfl 0 rfl rfl rfl rfl rfl (Nat.le_of_ble_eq_true rfl) ⟨Nat.le_of_ble_eq_true rfl, Nat.le_of_ble_eq_true rfl⟩ dL_pass_4 (fun r u hu => ?_)
      obtain ⟨a2, S2⟩ := u
      obtain ⟨hr, v0, v1, v2, v3, v4⟩ := hu
      replace v2 : Rel (ticks f n.toNat) (S2 0) := v2
      have tie2 : Tie (ticks f n.toNat) (svS sv f sm) x (smS sm) ln S2 := tie_save hT v2 (pass_keep hI kp h1 h2) v3 v4
      obtain rfl : r = iZ (ticks f n.toNat 8 - f 8) := hr
      show Gz pp l ee ({ frames := 7, cells := 1, slots := 6, locals := 136 } : Room) ss mm args below meth cd 4 0 0 Q (Zw D vwCl (va_A wst sz) ss (wBq y o a2 S2 tb x ln (smS sm) (sav a2) p6 ++ wO1 y ob g)) 7 [(0, .ref (o 0)), (1, .int (iZ n)), (2, .ref ob)] [.int (iZ (ticks f n.toNat 8 - f 8)), .int (iZ 0), .ref ob]
      refine z_i2lw mx mb dL_pass_7 ?_
      refine z_last mx mb hK 94 3 rfl rfl dL_pass_8 (wBq y o a2 S2 tb x ln (smS sm) (sav a2) p6 ++ wO1 y ob (vp_updL g 0 (lZ (wz (ticks f n.toNat 8 - f 8))))) rfl ?_
      refine z_goto (tgt := 18) mx mb dL_pass_9 (by decide) ?_
      refine z_iconst mx mb dL_pass_18 ?_
      rw [hQ]
      refine z_widen (k1 := 1) (n1 := 6) (by decide) (by decide) ?_
      exact z_retI mx mb mr mlk hK (a2, S2, vp_updL g 0 (lZ (wz (ticks f n.toNat 8 - f 8)))) ⟨by rw [e0], fun _ => rfl, by rw [e0]; exact tie2⟩ (by rw [e0]; rfl) dL_pass_19
    · refine z_callXc (wa := []) (wc := wBq y o a S tb x ln sm (sav a) p6) (wb := wO1 y ob g) (As := [.int (iZ n)]) (rest := [.int (iZ 0), .ref ob]) ⟨mx, mb, mml, mo, mts⟩ hK hA hE (fun sz => c_X4_pass_t1 l hl0 D sz y o a S tb x ln sm f n hR hI kp h9n h1) (cwV 1 mts gL_pass_X4_pass rfl rfl rfl (by decide +kernel) ⟨Nat.le_of_ble_eq_true rfl, Nat.le_of_ble_eq_true rfl⟩) rfl 0 rfl rfl rfl rfl rfl (Nat.le_of_ble_eq_true rfl) ⟨Nat.le_of_ble_eq_true rfl, Nat.le_of_ble_eq_true rfl⟩ dL_pass_4 [] (tE (0, 9, 12, 28)) [tE (0, 9, 15, 15)] (by rw [hXt]; rfl) (fun z hz => nomatch hz) (by decide) (by decide) (mts _ (List.mem_of_getElem? (i := 1) rfl)) (eW_use (List.mem_of_getElem? (i := 5) rfl) (hE.2.2.2.1 _ (List.mem_of_getElem? (i := 5) rfl))) (tgt := 12) rfl (fun q9 => ?_)
      show Gz pp l ee ({ frames := 7, cells := 1, slots := 6, locals := 136 } : Room) ss mm args below meth cd 4 1 6 Q (Zw D vwCl (va_A wst sz) ss (wBq y o a S tb x ln sm (sav a) p6 ++ wO1 y ob g)) 12 [(0, .ref (o 0)), (1, .int (iZ n)), (2, .ref ob)] [.ref q9]
      refine z_astore_n mx mb dL_pass_12 rfl (by decide) [(3, .ref q9), (0, .ref (o 0)), (1, .int (iZ n)), (2, .ref ob)] rfl ?_
      refine z_iconst mx mb dL_pass_13 ?_
      rw [hQ]
      exact z_retI mx mb mr mlk hK (a, S, g) ⟨by rw [e0], fun h => absurd (e0.symm.trans h) (by decide), by rw [e0]; exact hT⟩ (by rw [e0]; rfl) dL_pass_14
    · refine z_callXc (wa := []) (wc := wBq y o a S tb x ln sm (sav a) p6) (wb := wO1 y ob g) (As := [.int (iZ n)]) (rest := [.int (iZ 0), .ref ob]) ⟨mx, mb, mml, mo, mts⟩ hK hA hE (fun sz => c_X4_pass_t2 l hl0 D sz y o a S tb x ln sm f n hR hI kp h1 h2) (cwV 1 mts gL_pass_X4_pass rfl rfl rfl (by decide +kernel) ⟨Nat.le_of_ble_eq_true rfl, Nat.le_of_ble_eq_true rfl⟩) rfl 0 rfl rfl rfl rfl rfl (Nat.le_of_ble_eq_true rfl) ⟨Nat.le_of_ble_eq_true rfl, Nat.le_of_ble_eq_true rfl⟩ dL_pass_4 [tE (0, 9, 12, 28)] (tE (0, 9, 15, 15)) [] (by rw [hXt]; rfl) (fun z hz => by obtain rfl := List.mem_singleton.mp hz; exact Or.inr ⟨by decide, _, (mts _ (List.mem_of_getElem? (i := 1) rfl)), hE.2.2.1.2.2.2.2⟩) (by decide) (by decide) (mts _ (List.mem_of_getElem? (i := 2) rfl)) (eW_use (List.mem_of_getElem? (i := 4) rfl) (hE.2.2.2.1 _ (List.mem_of_getElem? (i := 4) rfl))) (tgt := 15) rfl (fun q9 => ?_)
      show Gz pp l ee ({ frames := 7, cells := 1, slots := 6, locals := 136 } : Room) ss mm args below meth cd 4 1 6 Q (Zw D vwCl (va_A wst sz) ss (wBq y o a S tb x ln sm (sav a) p6 ++ wO1 y ob g)) 15 [(0, .ref (o 0)), (1, .int (iZ n)), (2, .ref ob)] [.ref q9]
      refine z_astore_n mx mb dL_pass_15 rfl (by decide) [(3, .ref q9), (0, .ref (o 0)), (1, .int (iZ n)), (2, .ref ob)] rfl ?_
      refine z_iconst mx mb dL_pass_16 ?_
      rw [hQ]
      exact z_retI mx mb mr mlk hK (a, S, g) ⟨by rw [e0], fun h => absurd (e0.symm.trans h) (by decide), by rw [e0]; exact hT⟩ (by rw [e0]; rfl) dL_pass_17
  subst hQ
  subst hw0
  exact hstart

set_option maxRecDepth 100000 in
set_option maxHeartbeats 4000000 in
theorem c_L_train (l : Launch) (hl0 : l.stackTraces = false) (D : va_G) (sz : Nat) (y : Nat → ClassId) (o : Nat → Nat) (a : Nat → Nat → Nat) (S : Nat → Nat → Int → Int) (tb : Nat → Nat) (x : Int → Int) (ln sm : Int) (f sv : Int → Int) (t w : Int) (ob : Nat) (g : Nat → Int64) (h9t : -2147483648 ≤ t ∧ t ≤ 2147483647) (h9w : -2147483648 ≤ w ∧ w ≤ 2147483647) (hT : Tie f sv x sm ln S) : Met l yL_train wsL_train ({ frames := 8, cells := 1, slots := 6, locals := 134 } : Room) (zPe D vwCl (zT y) (wBq y o a S tb x ln sm (sav a) p6 ++ wO1 y ob g) sz [.ref (o 0), .int (iZ t), .int (iZ w), .ref ob]) (va_Qi (fun (r : Int32) (u : (Nat → Nat → Nat) × (Nat → Nat → Int → Int) × (Nat → Int64)) => r = iZ (thIn t (f 2 - 1) w 9) ∧ ((thIn t (f 2 - 1) w 9) = 0 → u.2.2 0 = lZ (wz (trainOf f t w))) ∧ Tie f sv x sm ln u.2.1) (zB D vwCl (zT y) (wBq y o a S tb x ln sm (sav a) p6 ++ wO1 y ob g) sz (fun u : (Nat → Nat → Nat) × (Nat → Nat → Int → Int) × (Nat → Int64) => wBq y o u.1 u.2.1 tb x ln sm (sav u.1) p6 ++ wO1 y ob u.2.2)) (va_A (wBq y o a S tb x ln sm (sav a) p6 ++ wO1 y ob g) sz)) 1 6 (va_A (wBq y o a S tb x ln sm (sav a) p6 ++ wO1 y ob g) sz) := by
  obtain ⟨⟨hR, hI, kp⟩, hsc, hTS, hl, htx⟩ := id hT
  refine z_headH (cc := cL_train) (maxL := 5) (ret := some .int) (hh := [(0, 10, 13, 13), (0, 10, 17, 28)]) [(0, .ref (o 0)), (1, .int (iZ t)), (2, .int (iZ w)), (3, .ref ob)] rfl (Nat.le_of_ble_eq_true rfl) (by decide +kernel) rfl ?_
  intro pp ee ss mm below meth cd mx mb mr mml mo mts mlk hK hsz hA hE hXt
  generalize ([.ref (o 0), .int (iZ t), .int (iZ w), .ref ob] : List Value).toArray = args at mts ⊢
  obtain ⟨wst, hw0⟩ : ∃ wst, wst = (wBq y o a S tb x ln sm (sav a) p6 ++ wO1 y ob g) := ⟨_, rfl⟩
  replace hE : zE (va_A wst sz) ss ss.heap := by rw [hw0]; exact hE
  replace hA : ∀ q, ss.heap.size ≤ q → va_A wst sz q := by rw [hw0]; exact hA
  obtain ⟨Q, hQ⟩ : ∃ Q, Q = MQ below (va_Qi (fun (r : Int32) (u : (Nat → Nat → Nat) × (Nat → Nat → Int → Int) × (Nat → Int64)) => r = iZ (thIn t (f 2 - 1) w 9) ∧ ((thIn t (f 2 - 1) w 9) = 0 → u.2.2 0 = lZ (wz (trainOf f t w))) ∧ Tie f sv x sm ln u.2.1) (zB D vwCl (zT y) wst sz (fun u : (Nat → Nat → Nat) × (Nat → Nat → Int → Int) × (Nat → Int64) => wBq y o u.1 u.2.1 tb x ln sm (sav u.1) p6 ++ wO1 y ob u.2.2)) (va_A wst sz)) args ss 1 6 (va_A wst sz) := ⟨_, rfl⟩
  have hstart : Gz pp l ee ({ frames := 8, cells := 1, slots := 6, locals := 134 } : Room) ss mm args below meth cd 5 0 0 Q (Zw D vwCl (va_A wst sz) ss (wBq y o a S tb x ln sm (sav a) p6 ++ wO1 y ob g)) 0 [(0, .ref (o 0)), (1, .int (iZ t)), (2, .int (iZ w)), (3, .ref ob)] [] := by
    refine z_aload_n mx mb dL_train_0 rfl 3 rfl ?_
    refine z_iconst mx mb dL_train_1 ?_
    refine z_aload_n mx mb dL_train_2 rfl 0 rfl ?_
    refine z_iload_n mx mb dL_train_3 rfl 1 rfl ?_
    refine z_iload_n mx mb dL_train_4 rfl 2 rfl ?_
    rcases thIn_c t (f 2) w 9 with ⟨e0, h1, h2⟩ | ⟨e0, h1⟩ | ⟨e0, h1, h2⟩
    · refine z_callI (wa := []) (wc := wBq y o a S tb x ln sm (sav a) p6) (wb := wO1 y ob g) (As := [.int (iZ t), .int (iZ w)]) (rest := [.int (iZ 0), .ref ob]) ⟨mx, mb, mml, mo, mts⟩ hK hA (fun sz => c_X4_train l D sz y o a S tb x ln sm f t w hR hI kp h1 h2) (cwV 2 mts gL_train_X4_train rfl rfl rfl (by decide +kernel) ⟨Nat.le_of_ble_eq_true rfl, Nat.le_of_ble_eq_true rfl⟩) rfl 0 rfl rfl rfl rfl rfl (Nat.le_of_ble_eq_true rfl) ⟨Nat.le_of_ble_eq_true rfl, Nat.le_of_ble_eq_true rfl⟩ dL_train_5 (fun r u hu => ?_)
      have hr := hu
      have tie2 := hT
      obtain rfl : r = iZ (trainOf f t w) := hr
      show Gz pp l ee ({ frames := 8, cells := 1, slots := 6, locals := 134 } : Room) ss mm args below meth cd 5 0 0 Q (Zw D vwCl (va_A wst sz) ss (wBq y o a S tb x ln sm (sav a) p6 ++ wO1 y ob g)) 8 [(0, .ref (o 0)), (1, .int (iZ t)), (2, .int (iZ w)), (3, .ref ob)] [.int (iZ (trainOf f t w)), .int (iZ 0), .ref ob]
      refine z_i2lw mx mb dL_train_8 ?_
      refine z_last mx mb hK 94 3 rfl rfl dL_train_9 (wBq y o a S tb x ln sm (sav a) p6 ++ wO1 y ob (vp_updL g 0 (lZ (wz (trainOf f t w))))) rfl ?_
      refine z_goto (tgt := 21) mx mb dL_train_10 (by decide) ?_
      refine z_iconst mx mb dL_train_21 ?_
      rw [hQ]
      refine z_widen (k1 := 1) (n1 := 6) (by decide) (by decide) ?_
      exact z_retI mx mb mr mlk hK (a, S, vp_updL g 0 (lZ (wz (trainOf f t w)))) ⟨by rw [e0], fun _ => rfl, by exact tie2⟩ (by rfl) dL_train_22
    · refine z_callXc (wa := []) (wc := wBq y o a S tb x ln sm (sav a) p6) (wb := wO1 y ob g) (As := [.int (iZ t), .int (iZ w)]) (rest := [.int (iZ 0), .ref ob]) ⟨mx, mb, mml, mo, mts⟩ hK hA hE (fun sz => c_X4_train_t1 l hl0 D sz y o a S tb x ln sm f t w hR hI kp h9t h9w h1) (cwV 2 mts gL_train_X4_train rfl rfl rfl (by decide +kernel) ⟨Nat.le_of_ble_eq_true rfl, Nat.le_of_ble_eq_true rfl⟩) rfl 0 rfl rfl rfl rfl rfl (Nat.le_of_ble_eq_true rfl) ⟨Nat.le_of_ble_eq_true rfl, Nat.le_of_ble_eq_true rfl⟩ dL_train_5 [] (tE (0, 10, 13, 13)) [tE (0, 10, 17, 28)] (by rw [hXt]; rfl) (fun z hz => nomatch hz) (by decide) (by decide) (mts _ (List.mem_of_getElem? (i := 1) rfl)) (eW_use (List.mem_of_getElem? (i := 3) rfl) (hE.2.2.2.1 _ (List.mem_of_getElem? (i := 3) rfl))) (tgt := 13) rfl (fun q9 => ?_)
      show Gz pp l ee ({ frames := 8, cells := 1, slots := 6, locals := 134 } : Room) ss mm args below meth cd 5 1 6 Q (Zw D vwCl (va_A wst sz) ss (wBq y o a S tb x ln sm (sav a) p6 ++ wO1 y ob g)) 13 [(0, .ref (o 0)), (1, .int (iZ t)), (2, .int (iZ w)), (3, .ref ob)] [.ref q9]
      refine z_astore mx mb dL_train_13 (by decide) [(4, .ref q9), (0, .ref (o 0)), (1, .int (iZ t)), (2, .int (iZ w)), (3, .ref ob)] rfl ?_
      refine z_iconst mx mb dL_train_15 ?_
      rw [hQ]
      exact z_retI mx mb mr mlk hK (a, S, g) ⟨by rw [e0], fun h => absurd (e0.symm.trans h) (by decide), by exact hT⟩ (by rfl) dL_train_16
    · refine z_callXc (wa := []) (wc := wBq y o a S tb x ln sm (sav a) p6) (wb := wO1 y ob g) (As := [.int (iZ t), .int (iZ w)]) (rest := [.int (iZ 0), .ref ob]) ⟨mx, mb, mml, mo, mts⟩ hK hA hE (fun sz => c_X4_train_t2 l hl0 D sz y o a S tb x ln sm f t w hR hI kp h9w h1 h2) (cwV 2 mts gL_train_X4_train rfl rfl rfl (by decide +kernel) ⟨Nat.le_of_ble_eq_true rfl, Nat.le_of_ble_eq_true rfl⟩) rfl 0 rfl rfl rfl rfl rfl (Nat.le_of_ble_eq_true rfl) ⟨Nat.le_of_ble_eq_true rfl, Nat.le_of_ble_eq_true rfl⟩ dL_train_5 [tE (0, 10, 13, 13)] (tE (0, 10, 17, 28)) [] (by rw [hXt]; rfl) (fun z hz => by obtain rfl := List.mem_singleton.mp hz; exact Or.inr ⟨by decide, _, (mts _ (List.mem_of_getElem? (i := 1) rfl)), hE.2.2.1.2.2.2.1⟩) (by decide) (by decide) (mts _ (List.mem_of_getElem? (i := 2) rfl)) (eW_use (List.mem_of_getElem? (i := 5) rfl) (hE.2.2.2.1 _ (List.mem_of_getElem? (i := 5) rfl))) (tgt := 17) rfl (fun q9 => ?_)
      show Gz pp l ee ({ frames := 8, cells := 1, slots := 6, locals := 134 } : Room) ss mm args below meth cd 5 1 6 Q (Zw D vwCl (va_A wst sz) ss (wBq y o a S tb x ln sm (sav a) p6 ++ wO1 y ob g)) 17 [(0, .ref (o 0)), (1, .int (iZ t)), (2, .int (iZ w)), (3, .ref ob)] [.ref q9]
      refine z_astore mx mb dL_train_17 (by decide) [(4, .ref q9), (0, .ref (o 0)), (1, .int (iZ t)), (2, .int (iZ w)), (3, .ref ob)] rfl ?_
      refine z_iconst mx mb dL_train_19 ?_
      rw [hQ]
      exact z_retI mx mb mr mlk hK (a, S, g) ⟨by rw [e0], fun h => absurd (e0.symm.trans h) (by decide), by exact hT⟩ (by rfl) dL_train_20
  subst hQ
  subst hw0
  exact hstart

set_option maxRecDepth 100000 in
set_option maxHeartbeats 4000000 in
theorem c_L_cell (l : Launch) (hl0 : l.stackTraces = false) (D : va_G) (sz : Nat) (y : Nat → ClassId) (o : Nat → Nat) (a : Nat → Nat → Nat) (S : Nat → Nat → Int → Int) (tb : Nat → Nat) (x : Int → Int) (ln sm : Int) (f sv : Int → Int) (c w : Int) (ob : Nat) (g : Nat → Int64) (h9c : -2147483648 ≤ c ∧ c ≤ 2147483647) (h9w : -2147483648 ≤ w ∧ w ≤ 2147483647) (hT : Tie f sv x sm ln S) : Met l yL_cell wsL_cell ({ frames := 8, cells := 1, slots := 6, locals := 133 } : Room) (zPe D vwCl (zT y) (wBq y o a S tb x ln sm (sav a) p6 ++ wO1 y ob g) sz [.ref (o 0), .int (iZ c), .int (iZ w), .ref ob]) (va_Qi (fun (r : Int32) (u : (Nat → Nat → Nat) × (Nat → Nat → Int → Int) × (Nat → Int64)) => r = iZ (thIn c (f 0 - 1) w 3) ∧ ((thIn c (f 0 - 1) w 3) = 0 → u.2.2 0 = lZ (wz (cellOf f c w))) ∧ Tie f sv x sm ln u.2.1) (zB D vwCl (zT y) (wBq y o a S tb x ln sm (sav a) p6 ++ wO1 y ob g) sz (fun u : (Nat → Nat → Nat) × (Nat → Nat → Int → Int) × (Nat → Int64) => wBq y o u.1 u.2.1 tb x ln sm (sav u.1) p6 ++ wO1 y ob u.2.2)) (va_A (wBq y o a S tb x ln sm (sav a) p6 ++ wO1 y ob g) sz)) 1 6 (va_A (wBq y o a S tb x ln sm (sav a) p6 ++ wO1 y ob g) sz) := by
  obtain ⟨⟨hR, hI, kp⟩, hsc, hTS, hl, htx⟩ := id hT
  refine z_headH (cc := cL_cell) (maxL := 5) (ret := some .int) (hh := [(0, 10, 13, 13), (0, 10, 17, 28)]) [(0, .ref (o 0)), (1, .int (iZ c)), (2, .int (iZ w)), (3, .ref ob)] rfl (Nat.le_of_ble_eq_true rfl) (by decide +kernel) rfl ?_
  intro pp ee ss mm below meth cd mx mb mr mml mo mts mlk hK hsz hA hE hXt
  generalize ([.ref (o 0), .int (iZ c), .int (iZ w), .ref ob] : List Value).toArray = args at mts ⊢
  obtain ⟨wst, hw0⟩ : ∃ wst, wst = (wBq y o a S tb x ln sm (sav a) p6 ++ wO1 y ob g) := ⟨_, rfl⟩
  replace hE : zE (va_A wst sz) ss ss.heap := by rw [hw0]; exact hE
  replace hA : ∀ q, ss.heap.size ≤ q → va_A wst sz q := by rw [hw0]; exact hA
  obtain ⟨Q, hQ⟩ : ∃ Q, Q = MQ below (va_Qi (fun (r : Int32) (u : (Nat → Nat → Nat) × (Nat → Nat → Int → Int) × (Nat → Int64)) => r = iZ (thIn c (f 0 - 1) w 3) ∧ ((thIn c (f 0 - 1) w 3) = 0 → u.2.2 0 = lZ (wz (cellOf f c w))) ∧ Tie f sv x sm ln u.2.1) (zB D vwCl (zT y) wst sz (fun u : (Nat → Nat → Nat) × (Nat → Nat → Int → Int) × (Nat → Int64) => wBq y o u.1 u.2.1 tb x ln sm (sav u.1) p6 ++ wO1 y ob u.2.2)) (va_A wst sz)) args ss 1 6 (va_A wst sz) := ⟨_, rfl⟩
  have hstart : Gz pp l ee ({ frames := 8, cells := 1, slots := 6, locals := 133 } : Room) ss mm args below meth cd 5 0 0 Q (Zw D vwCl (va_A wst sz) ss (wBq y o a S tb x ln sm (sav a) p6 ++ wO1 y ob g)) 0 [(0, .ref (o 0)), (1, .int (iZ c)), (2, .int (iZ w)), (3, .ref ob)] [] := by
    refine z_aload_n mx mb dL_cell_0 rfl 3 rfl ?_
    refine z_iconst mx mb dL_cell_1 ?_
    refine z_aload_n mx mb dL_cell_2 rfl 0 rfl ?_
    refine z_iload_n mx mb dL_cell_3 rfl 1 rfl ?_
    refine z_iload_n mx mb dL_cell_4 rfl 2 rfl ?_
    rcases thIn_c c (f 0) w 3 with ⟨e0, h1, h2⟩ | ⟨e0, h1⟩ | ⟨e0, h1, h2⟩
    · refine z_callI (wa := []) (wc := wBq y o a S tb x ln sm (sav a) p6) (wb := wO1 y ob g) (As := [.int (iZ c), .int (iZ w)]) (rest := [.int (iZ 0), .ref ob]) ⟨mx, mb, mml, mo, mts⟩ hK hA (fun sz => c_X4_cell l D sz y o a S tb x ln sm f c w hR hI kp h1 h2) (cwV 2 mts gL_cell_X4_cell rfl rfl rfl (by decide +kernel) ⟨Nat.le_of_ble_eq_true rfl, Nat.le_of_ble_eq_true rfl⟩) rfl 0 rfl rfl rfl rfl rfl (Nat.le_of_ble_eq_true rfl) ⟨Nat.le_of_ble_eq_true rfl, Nat.le_of_ble_eq_true rfl⟩ dL_cell_5 (fun r u hu => ?_)
      have hr := hu
      have tie2 := hT
      obtain rfl : r = iZ (cellOf f c w) := hr
      show Gz pp l ee ({ frames := 8, cells := 1, slots := 6, locals := 133 } : Room) ss mm args below meth cd 5 0 0 Q (Zw D vwCl (va_A wst sz) ss (wBq y o a S tb x ln sm (sav a) p6 ++ wO1 y ob g)) 8 [(0, .ref (o 0)), (1, .int (iZ c)), (2, .int (iZ w)), (3, .ref ob)] [.int (iZ (cellOf f c w)), .int (iZ 0), .ref ob]
      refine z_i2lw mx mb dL_cell_8 ?_
      refine z_last mx mb hK 94 3 rfl rfl dL_cell_9 (wBq y o a S tb x ln sm (sav a) p6 ++ wO1 y ob (vp_updL g 0 (lZ (wz (cellOf f c w))))) rfl ?_
      refine z_goto (tgt := 21) mx mb dL_cell_10 (by decide) ?_
      refine z_iconst mx mb dL_cell_21 ?_
      rw [hQ]
      refine z_widen (k1 := 1) (n1 := 6) (by decide) (by decide) ?_
      exact z_retI mx mb mr mlk hK (a, S, vp_updL g 0 (lZ (wz (cellOf f c w)))) ⟨by rw [e0], fun _ => rfl, by exact tie2⟩ (by rfl) dL_cell_22
    · refine z_callXc (wa := []) (wc := wBq y o a S tb x ln sm (sav a) p6) (wb := wO1 y ob g) (As := [.int (iZ c), .int (iZ w)]) (rest := [.int (iZ 0), .ref ob]) ⟨mx, mb, mml, mo, mts⟩ hK hA hE (fun sz => c_X4_cell_t1 l hl0 D sz y o a S tb x ln sm f c w hR hI kp h9c h9w h1) (cwV 2 mts gL_cell_X4_cell rfl rfl rfl (by decide +kernel) ⟨Nat.le_of_ble_eq_true rfl, Nat.le_of_ble_eq_true rfl⟩) rfl 0 rfl rfl rfl rfl rfl (Nat.le_of_ble_eq_true rfl) ⟨Nat.le_of_ble_eq_true rfl, Nat.le_of_ble_eq_true rfl⟩ dL_cell_5 [] (tE (0, 10, 13, 13)) [tE (0, 10, 17, 28)] (by rw [hXt]; rfl) (fun z hz => nomatch hz) (by decide) (by decide) (mts _ (List.mem_of_getElem? (i := 1) rfl)) (eW_use (List.mem_of_getElem? (i := 3) rfl) (hE.2.2.2.1 _ (List.mem_of_getElem? (i := 3) rfl))) (tgt := 13) rfl (fun q9 => ?_)
      show Gz pp l ee ({ frames := 8, cells := 1, slots := 6, locals := 133 } : Room) ss mm args below meth cd 5 1 6 Q (Zw D vwCl (va_A wst sz) ss (wBq y o a S tb x ln sm (sav a) p6 ++ wO1 y ob g)) 13 [(0, .ref (o 0)), (1, .int (iZ c)), (2, .int (iZ w)), (3, .ref ob)] [.ref q9]
      refine z_astore mx mb dL_cell_13 (by decide) [(4, .ref q9), (0, .ref (o 0)), (1, .int (iZ c)), (2, .int (iZ w)), (3, .ref ob)] rfl ?_
      refine z_iconst mx mb dL_cell_15 ?_
      rw [hQ]
      exact z_retI mx mb mr mlk hK (a, S, g) ⟨by rw [e0], fun h => absurd (e0.symm.trans h) (by decide), by exact hT⟩ (by rfl) dL_cell_16
    · refine z_callXc (wa := []) (wc := wBq y o a S tb x ln sm (sav a) p6) (wb := wO1 y ob g) (As := [.int (iZ c), .int (iZ w)]) (rest := [.int (iZ 0), .ref ob]) ⟨mx, mb, mml, mo, mts⟩ hK hA hE (fun sz => c_X4_cell_t2 l hl0 D sz y o a S tb x ln sm f c w hR hI kp h9w h1 h2) (cwV 2 mts gL_cell_X4_cell rfl rfl rfl (by decide +kernel) ⟨Nat.le_of_ble_eq_true rfl, Nat.le_of_ble_eq_true rfl⟩) rfl 0 rfl rfl rfl rfl rfl (Nat.le_of_ble_eq_true rfl) ⟨Nat.le_of_ble_eq_true rfl, Nat.le_of_ble_eq_true rfl⟩ dL_cell_5 [tE (0, 10, 13, 13)] (tE (0, 10, 17, 28)) [] (by rw [hXt]; rfl) (fun z hz => by obtain rfl := List.mem_singleton.mp hz; exact Or.inr ⟨by decide, _, (mts _ (List.mem_of_getElem? (i := 1) rfl)), hE.2.2.1.2.2.2.1⟩) (by decide) (by decide) (mts _ (List.mem_of_getElem? (i := 2) rfl)) (eW_use (List.mem_of_getElem? (i := 5) rfl) (hE.2.2.2.1 _ (List.mem_of_getElem? (i := 5) rfl))) (tgt := 17) rfl (fun q9 => ?_)
      show Gz pp l ee ({ frames := 8, cells := 1, slots := 6, locals := 133 } : Room) ss mm args below meth cd 5 1 6 Q (Zw D vwCl (va_A wst sz) ss (wBq y o a S tb x ln sm (sav a) p6 ++ wO1 y ob g)) 17 [(0, .ref (o 0)), (1, .int (iZ c)), (2, .int (iZ w)), (3, .ref ob)] [.ref q9]
      refine z_astore mx mb dL_cell_17 (by decide) [(4, .ref q9), (0, .ref (o 0)), (1, .int (iZ c)), (2, .int (iZ w)), (3, .ref ob)] rfl ?_
      refine z_iconst mx mb dL_cell_19 ?_
      rw [hQ]
      exact z_retI mx mb mr mlk hK (a, S, g) ⟨by rw [e0], fun h => absurd (e0.symm.trans h) (by decide), by exact hT⟩ (by rfl) dL_cell_20
  subst hQ
  subst hw0
  exact hstart

set_option maxRecDepth 100000 in
set_option maxHeartbeats 4000000 in
theorem c_L_block (l : Launch) (hl0 : l.stackTraces = false) (D : va_G) (sz : Nat) (y : Nat → ClassId) (o : Nat → Nat) (a : Nat → Nat → Nat) (S : Nat → Nat → Int → Int) (tb : Nat → Nat) (x : Int → Int) (ln sm : Int) (f sv : Int → Int) (c w : Int) (ob : Nat) (g : Nat → Int64) (h9c : -2147483648 ≤ c ∧ c ≤ 2147483647) (h9w : -2147483648 ≤ w ∧ w ≤ 2147483647) (hT : Tie f sv x sm ln S) : Met l yL_block wsL_block ({ frames := 8, cells := 1, slots := 6, locals := 133 } : Room) (zPe D vwCl (zT y) (wBq y o a S tb x ln sm (sav a) p6 ++ wO1 y ob g) sz [.ref (o 0), .int (iZ c), .int (iZ w), .ref ob]) (va_Qi (fun (r : Int32) (u : (Nat → Nat → Nat) × (Nat → Nat → Int → Int) × (Nat → Int64)) => r = iZ (thIn c (f 1 - 1) w 4) ∧ ((thIn c (f 1 - 1) w 4) = 0 → u.2.2 0 = lZ (wz (blockOf f c w))) ∧ Tie f sv x sm ln u.2.1) (zB D vwCl (zT y) (wBq y o a S tb x ln sm (sav a) p6 ++ wO1 y ob g) sz (fun u : (Nat → Nat → Nat) × (Nat → Nat → Int → Int) × (Nat → Int64) => wBq y o u.1 u.2.1 tb x ln sm (sav u.1) p6 ++ wO1 y ob u.2.2)) (va_A (wBq y o a S tb x ln sm (sav a) p6 ++ wO1 y ob g) sz)) 1 6 (va_A (wBq y o a S tb x ln sm (sav a) p6 ++ wO1 y ob g) sz) := by
  obtain ⟨⟨hR, hI, kp⟩, hsc, hTS, hl, htx⟩ := id hT
  refine z_headH (cc := cL_block) (maxL := 5) (ret := some .int) (hh := [(0, 10, 13, 13), (0, 10, 17, 28)]) [(0, .ref (o 0)), (1, .int (iZ c)), (2, .int (iZ w)), (3, .ref ob)] rfl (Nat.le_of_ble_eq_true rfl) (by decide +kernel) rfl ?_
  intro pp ee ss mm below meth cd mx mb mr mml mo mts mlk hK hsz hA hE hXt
  generalize ([.ref (o 0), .int (iZ c), .int (iZ w), .ref ob] : List Value).toArray = args at mts ⊢
  obtain ⟨wst, hw0⟩ : ∃ wst, wst = (wBq y o a S tb x ln sm (sav a) p6 ++ wO1 y ob g) := ⟨_, rfl⟩
  replace hE : zE (va_A wst sz) ss ss.heap := by rw [hw0]; exact hE
  replace hA : ∀ q, ss.heap.size ≤ q → va_A wst sz q := by rw [hw0]; exact hA
  obtain ⟨Q, hQ⟩ : ∃ Q, Q = MQ below (va_Qi (fun (r : Int32) (u : (Nat → Nat → Nat) × (Nat → Nat → Int → Int) × (Nat → Int64)) => r = iZ (thIn c (f 1 - 1) w 4) ∧ ((thIn c (f 1 - 1) w 4) = 0 → u.2.2 0 = lZ (wz (blockOf f c w))) ∧ Tie f sv x sm ln u.2.1) (zB D vwCl (zT y) wst sz (fun u : (Nat → Nat → Nat) × (Nat → Nat → Int → Int) × (Nat → Int64) => wBq y o u.1 u.2.1 tb x ln sm (sav u.1) p6 ++ wO1 y ob u.2.2)) (va_A wst sz)) args ss 1 6 (va_A wst sz) := ⟨_, rfl⟩
  have hstart : Gz pp l ee ({ frames := 8, cells := 1, slots := 6, locals := 133 } : Room) ss mm args below meth cd 5 0 0 Q (Zw D vwCl (va_A wst sz) ss (wBq y o a S tb x ln sm (sav a) p6 ++ wO1 y ob g)) 0 [(0, .ref (o 0)), (1, .int (iZ c)), (2, .int (iZ w)), (3, .ref ob)] [] := by
    refine z_aload_n mx mb dL_block_0 rfl 3 rfl ?_
    refine z_iconst mx mb dL_block_1 ?_
    refine z_aload_n mx mb dL_block_2 rfl 0 rfl ?_
    refine z_iload_n mx mb dL_block_3 rfl 1 rfl ?_
    refine z_iload_n mx mb dL_block_4 rfl 2 rfl ?_
    rcases thIn_c c (f 1) w 4 with ⟨e0, h1, h2⟩ | ⟨e0, h1⟩ | ⟨e0, h1, h2⟩
    · refine z_callI (wa := []) (wc := wBq y o a S tb x ln sm (sav a) p6) (wb := wO1 y ob g) (As := [.int (iZ c), .int (iZ w)]) (rest := [.int (iZ 0), .ref ob]) ⟨mx, mb, mml, mo, mts⟩ hK hA (fun sz => c_X4_block l D sz y o a S tb x ln sm f c w hR hI kp h1 h2) (cwV 2 mts gL_block_X4_block rfl rfl rfl (by decide +kernel) ⟨Nat.le_of_ble_eq_true rfl, Nat.le_of_ble_eq_true rfl⟩) rfl 0 rfl rfl rfl rfl rfl (Nat.le_of_ble_eq_true rfl) ⟨Nat.le_of_ble_eq_true rfl, Nat.le_of_ble_eq_true rfl⟩ dL_block_5 (fun r u hu => ?_)
      have hr := hu
      have tie2 := hT
      obtain rfl : r = iZ (blockOf f c w) := hr
      show Gz pp l ee ({ frames := 8, cells := 1, slots := 6, locals := 133 } : Room) ss mm args below meth cd 5 0 0 Q (Zw D vwCl (va_A wst sz) ss (wBq y o a S tb x ln sm (sav a) p6 ++ wO1 y ob g)) 8 [(0, .ref (o 0)), (1, .int (iZ c)), (2, .int (iZ w)), (3, .ref ob)] [.int (iZ (blockOf f c w)), .int (iZ 0), .ref ob]
      refine z_i2lw mx mb dL_block_8 ?_
      refine z_last mx mb hK 94 3 rfl rfl dL_block_9 (wBq y o a S tb x ln sm (sav a) p6 ++ wO1 y ob (vp_updL g 0 (lZ (wz (blockOf f c w))))) rfl ?_
      refine z_goto (tgt := 21) mx mb dL_block_10 (by decide) ?_
      refine z_iconst mx mb dL_block_21 ?_
      rw [hQ]
      refine z_widen (k1 := 1) (n1 := 6) (by decide) (by decide) ?_
      exact z_retI mx mb mr mlk hK (a, S, vp_updL g 0 (lZ (wz (blockOf f c w)))) ⟨by rw [e0], fun _ => rfl, by exact tie2⟩ (by rfl) dL_block_22
    · refine z_callXc (wa := []) (wc := wBq y o a S tb x ln sm (sav a) p6) (wb := wO1 y ob g) (As := [.int (iZ c), .int (iZ w)]) (rest := [.int (iZ 0), .ref ob]) ⟨mx, mb, mml, mo, mts⟩ hK hA hE (fun sz => c_X4_block_t1 l hl0 D sz y o a S tb x ln sm f c w hR hI kp h9c h9w h1) (cwV 2 mts gL_block_X4_block rfl rfl rfl (by decide +kernel) ⟨Nat.le_of_ble_eq_true rfl, Nat.le_of_ble_eq_true rfl⟩) rfl 0 rfl rfl rfl rfl rfl (Nat.le_of_ble_eq_true rfl) ⟨Nat.le_of_ble_eq_true rfl, Nat.le_of_ble_eq_true rfl⟩ dL_block_5 [] (tE (0, 10, 13, 13)) [tE (0, 10, 17, 28)] (by rw [hXt]; rfl) (fun z hz => nomatch hz) (by decide) (by decide) (mts _ (List.mem_of_getElem? (i := 1) rfl)) (eW_use (List.mem_of_getElem? (i := 3) rfl) (hE.2.2.2.1 _ (List.mem_of_getElem? (i := 3) rfl))) (tgt := 13) rfl (fun q9 => ?_)
      show Gz pp l ee ({ frames := 8, cells := 1, slots := 6, locals := 133 } : Room) ss mm args below meth cd 5 1 6 Q (Zw D vwCl (va_A wst sz) ss (wBq y o a S tb x ln sm (sav a) p6 ++ wO1 y ob g)) 13 [(0, .ref (o 0)), (1, .int (iZ c)), (2, .int (iZ w)), (3, .ref ob)] [.ref q9]
      refine z_astore mx mb dL_block_13 (by decide) [(4, .ref q9), (0, .ref (o 0)), (1, .int (iZ c)), (2, .int (iZ w)), (3, .ref ob)] rfl ?_
      refine z_iconst mx mb dL_block_15 ?_
      rw [hQ]
      exact z_retI mx mb mr mlk hK (a, S, g) ⟨by rw [e0], fun h => absurd (e0.symm.trans h) (by decide), by exact hT⟩ (by rfl) dL_block_16
    · refine z_callXc (wa := []) (wc := wBq y o a S tb x ln sm (sav a) p6) (wb := wO1 y ob g) (As := [.int (iZ c), .int (iZ w)]) (rest := [.int (iZ 0), .ref ob]) ⟨mx, mb, mml, mo, mts⟩ hK hA hE (fun sz => c_X4_block_t2 l hl0 D sz y o a S tb x ln sm f c w hR hI kp h9w h1 h2) (cwV 2 mts gL_block_X4_block rfl rfl rfl (by decide +kernel) ⟨Nat.le_of_ble_eq_true rfl, Nat.le_of_ble_eq_true rfl⟩) rfl 0 rfl rfl rfl rfl rfl (Nat.le_of_ble_eq_true rfl) ⟨Nat.le_of_ble_eq_true rfl, Nat.le_of_ble_eq_true rfl⟩ dL_block_5 [tE (0, 10, 13, 13)] (tE (0, 10, 17, 28)) [] (by rw [hXt]; rfl) (fun z hz => by obtain rfl := List.mem_singleton.mp hz; exact Or.inr ⟨by decide, _, (mts _ (List.mem_of_getElem? (i := 1) rfl)), hE.2.2.1.2.2.2.1⟩) (by decide) (by decide) (mts _ (List.mem_of_getElem? (i := 2) rfl)) (eW_use (List.mem_of_getElem? (i := 5) rfl) (hE.2.2.2.1 _ (List.mem_of_getElem? (i := 5) rfl))) (tgt := 17) rfl (fun q9 => ?_)
      show Gz pp l ee ({ frames := 8, cells := 1, slots := 6, locals := 133 } : Room) ss mm args below meth cd 5 1 6 Q (Zw D vwCl (va_A wst sz) ss (wBq y o a S tb x ln sm (sav a) p6 ++ wO1 y ob g)) 17 [(0, .ref (o 0)), (1, .int (iZ c)), (2, .int (iZ w)), (3, .ref ob)] [.ref q9]
      refine z_astore mx mb dL_block_17 (by decide) [(4, .ref q9), (0, .ref (o 0)), (1, .int (iZ c)), (2, .int (iZ w)), (3, .ref ob)] rfl ?_
      refine z_iconst mx mb dL_block_19 ?_
      rw [hQ]
      exact z_retI mx mb mr mlk hK (a, S, g) ⟨by rw [e0], fun h => absurd (e0.symm.trans h) (by decide), by exact hT⟩ (by rfl) dL_block_20
  subst hQ
  subst hw0
  exact hstart

set_option maxRecDepth 100000 in
set_option maxHeartbeats 4000000 in
theorem c_L_value (l : Launch) (hl0 : l.stackTraces = false) (D : va_G) (sz : Nat) (y : Nat → ClassId) (o : Nat → Nat) (a : Nat → Nat → Nat) (S : Nat → Nat → Int → Int) (tb : Nat → Nat) (x : Int → Int) (ln sm : Int) (f sv : Int → Int) (w : Int) (ob : Nat) (g : Nat → Int64) (h9w : -2147483648 ≤ w ∧ w ≤ 2147483647) (hT : Tie f sv x sm ln S) : Met l yL_value wsL_value ({ frames := 7, cells := 1, slots := 6, locals := 111 } : Room) (zPe D vwCl (zT y) (wBq y o a S tb x ln sm (sav a) p6 ++ wO1 y ob g) sz [.ref (o 0), .int (iZ w), .ref ob]) (va_Qi (fun (r : Int32) (u : (Nat → Nat → Nat) × (Nat → Nat → Int → Int) × (Nat → Int64)) => r = iZ (thOne w 11) ∧ ((thOne w 11) = 0 → u.2.2 0 = lZ (wz (valueOf f w))) ∧ Tie f sv x sm ln u.2.1) (zB D vwCl (zT y) (wBq y o a S tb x ln sm (sav a) p6 ++ wO1 y ob g) sz (fun u : (Nat → Nat → Nat) × (Nat → Nat → Int → Int) × (Nat → Int64) => wBq y o u.1 u.2.1 tb x ln sm (sav u.1) p6 ++ wO1 y ob u.2.2)) (va_A (wBq y o a S tb x ln sm (sav a) p6 ++ wO1 y ob g) sz)) 1 6 (va_A (wBq y o a S tb x ln sm (sav a) p6 ++ wO1 y ob g) sz) := by
  obtain ⟨⟨hR, hI, kp⟩, hsc, hTS, hl, htx⟩ := id hT
  refine z_headH (cc := cL_value) (maxL := 4) (ret := some .int) (hh := [(0, 9, 12, 28)]) [(0, .ref (o 0)), (1, .int (iZ w)), (2, .ref ob)] rfl (Nat.le_of_ble_eq_true rfl) (by decide +kernel) rfl ?_
  intro pp ee ss mm below meth cd mx mb mr mml mo mts mlk hK hsz hA hE hXt
  generalize ([.ref (o 0), .int (iZ w), .ref ob] : List Value).toArray = args at mts ⊢
  obtain ⟨wst, hw0⟩ : ∃ wst, wst = (wBq y o a S tb x ln sm (sav a) p6 ++ wO1 y ob g) := ⟨_, rfl⟩
  replace hE : zE (va_A wst sz) ss ss.heap := by rw [hw0]; exact hE
  replace hA : ∀ q, ss.heap.size ≤ q → va_A wst sz q := by rw [hw0]; exact hA
  obtain ⟨Q, hQ⟩ : ∃ Q, Q = MQ below (va_Qi (fun (r : Int32) (u : (Nat → Nat → Nat) × (Nat → Nat → Int → Int) × (Nat → Int64)) => r = iZ (thOne w 11) ∧ ((thOne w 11) = 0 → u.2.2 0 = lZ (wz (valueOf f w))) ∧ Tie f sv x sm ln u.2.1) (zB D vwCl (zT y) wst sz (fun u : (Nat → Nat → Nat) × (Nat → Nat → Int → Int) × (Nat → Int64) => wBq y o u.1 u.2.1 tb x ln sm (sav u.1) p6 ++ wO1 y ob u.2.2)) (va_A wst sz)) args ss 1 6 (va_A wst sz) := ⟨_, rfl⟩
  have hstart : Gz pp l ee ({ frames := 7, cells := 1, slots := 6, locals := 111 } : Room) ss mm args below meth cd 4 0 0 Q (Zw D vwCl (va_A wst sz) ss (wBq y o a S tb x ln sm (sav a) p6 ++ wO1 y ob g)) 0 [(0, .ref (o 0)), (1, .int (iZ w)), (2, .ref ob)] [] := by
    refine z_aload_n mx mb dL_value_0 rfl 2 rfl ?_
    refine z_iconst mx mb dL_value_1 ?_
    refine z_aload_n mx mb dL_value_2 rfl 0 rfl ?_
    refine z_iload_n mx mb dL_value_3 rfl 1 rfl ?_
    rcases thOne_d w 11 with ⟨e0, h1⟩ | ⟨e0, h1⟩
    · refine z_callI (wa := []) (wc := wBq y o a S tb x ln sm (sav a) p6) (wb := wO1 y ob g) (As := [.int (iZ w)]) (rest := [.int (iZ 0), .ref ob]) ⟨mx, mb, mml, mo, mts⟩ hK hA (fun sz => c_X4_value l D sz y o a S tb x ln sm f w hR hI kp h1) (cwV 1 mts gL_value_X4_value rfl rfl rfl (by decide +kernel) ⟨Nat.le_of_ble_eq_true rfl, Nat.le_of_ble_eq_true rfl⟩) rfl 0 rfl rfl rfl rfl rfl (Nat.le_of_ble_eq_true rfl) ⟨Nat.le_of_ble_eq_true rfl, Nat.le_of_ble_eq_true rfl⟩ dL_value_4 (fun r u hu => ?_)
      have hr := hu
      have tie2 := hT
      obtain rfl : r = iZ (valueOf f w) := hr
      show Gz pp l ee ({ frames := 7, cells := 1, slots := 6, locals := 111 } : Room) ss mm args below meth cd 4 0 0 Q (Zw D vwCl (va_A wst sz) ss (wBq y o a S tb x ln sm (sav a) p6 ++ wO1 y ob g)) 7 [(0, .ref (o 0)), (1, .int (iZ w)), (2, .ref ob)] [.int (iZ (valueOf f w)), .int (iZ 0), .ref ob]
      refine z_i2lw mx mb dL_value_7 ?_
      refine z_last mx mb hK 94 3 rfl rfl dL_value_8 (wBq y o a S tb x ln sm (sav a) p6 ++ wO1 y ob (vp_updL g 0 (lZ (wz (valueOf f w))))) rfl ?_
      refine z_goto (tgt := 15) mx mb dL_value_9 (by decide) ?_
      refine z_iconst mx mb dL_value_15 ?_
      rw [hQ]
      refine z_widen (k1 := 1) (n1 := 6) (by decide) (by decide) ?_
      exact z_retI mx mb mr mlk hK (a, S, vp_updL g 0 (lZ (wz (valueOf f w)))) ⟨by rw [e0], fun _ => rfl, by exact tie2⟩ (by rfl) dL_value_16
    · refine z_callXc (wa := []) (wc := wBq y o a S tb x ln sm (sav a) p6) (wb := wO1 y ob g) (As := [.int (iZ w)]) (rest := [.int (iZ 0), .ref ob]) ⟨mx, mb, mml, mo, mts⟩ hK hA hE (fun sz => c_X4_value_t l hl0 D sz y o a S tb x ln sm f w hR hI kp h9w h1) (cwV 1 mts gL_value_X4_value rfl rfl rfl (by decide +kernel) ⟨Nat.le_of_ble_eq_true rfl, Nat.le_of_ble_eq_true rfl⟩) rfl 0 rfl rfl rfl rfl rfl (Nat.le_of_ble_eq_true rfl) ⟨Nat.le_of_ble_eq_true rfl, Nat.le_of_ble_eq_true rfl⟩ dL_value_4 [] (tE (0, 9, 12, 28)) [] (by rw [hXt]; rfl) (fun z hz => nomatch hz) (by decide) (by decide) (mts _ (List.mem_of_getElem? (i := 1) rfl)) (eW_use (List.mem_of_getElem? (i := 5) rfl) (hE.2.2.2.1 _ (List.mem_of_getElem? (i := 5) rfl))) (tgt := 12) rfl (fun q9 => ?_)
      show Gz pp l ee ({ frames := 7, cells := 1, slots := 6, locals := 111 } : Room) ss mm args below meth cd 4 1 6 Q (Zw D vwCl (va_A wst sz) ss (wBq y o a S tb x ln sm (sav a) p6 ++ wO1 y ob g)) 12 [(0, .ref (o 0)), (1, .int (iZ w)), (2, .ref ob)] [.ref q9]
      refine z_astore_n mx mb dL_value_12 rfl (by decide) [(3, .ref q9), (0, .ref (o 0)), (1, .int (iZ w)), (2, .ref ob)] rfl ?_
      refine z_iconst mx mb dL_value_13 ?_
      rw [hQ]
      exact z_retI mx mb mr mlk hK (a, S, g) ⟨by rw [e0], fun h => absurd (e0.symm.trans h) (by decide), by exact hT⟩ (by rfl) dL_value_14
  subst hQ
  subst hw0
  exact hstart

set_option maxRecDepth 100000 in
set_option maxHeartbeats 4000000 in
theorem c_L_dispatch (l : Launch) (hl0 : l.stackTraces = false) (D : va_G) (sz : Nat) (y : Nat → ClassId) (o : Nat → Nat) (a : Nat → Nat → Nat) (S : Nat → Nat → Int → Int) (tb : Nat → Nat) (x : Int → Int) (ln sm : Int) (f sv : Int → Int) (i w : Int) (ob : Nat) (g : Nat → Int64) (h9i : -2147483648 ≤ i ∧ i ≤ 2147483647) (h9w : -2147483648 ≤ w ∧ w ≤ 2147483647) (hT : Tie f sv x sm ln S) : Met l yL_dispatch wsL_dispatch ({ frames := 7, cells := 1, slots := 6, locals := 113 } : Room) (zPe D vwCl (zT y) (wBq y o a S tb x ln sm (sav a) p6 ++ wO1 y ob g) sz [.ref (o 0), .int (iZ i), .int (iZ w), .ref ob]) (va_Qi (fun (r : Int32) (u : (Nat → Nat → Nat) × (Nat → Nat → Int → Int) × (Nat → Int64)) => r = iZ (thIn i (f 10 - 1) w 1) ∧ ((thIn i (f 10 - 1) w 1) = 0 → u.2.2 0 = lZ (wz (f (111 + 2 * (f 10 - 1 - i) + w)))) ∧ Tie f sv x sm ln u.2.1) (zB D vwCl (zT y) (wBq y o a S tb x ln sm (sav a) p6 ++ wO1 y ob g) sz (fun u : (Nat → Nat → Nat) × (Nat → Nat → Int → Int) × (Nat → Int64) => wBq y o u.1 u.2.1 tb x ln sm (sav u.1) p6 ++ wO1 y ob u.2.2)) (va_A (wBq y o a S tb x ln sm (sav a) p6 ++ wO1 y ob g) sz)) 1 6 (va_A (wBq y o a S tb x ln sm (sav a) p6 ++ wO1 y ob g) sz) := by
  obtain ⟨⟨hR, hI, kp⟩, hsc, hTS, hl, htx⟩ := id hT
  refine z_headH (cc := cL_dispatch) (maxL := 5) (ret := some .int) (hh := [(0, 10, 13, 13), (0, 10, 17, 28)]) [(0, .ref (o 0)), (1, .int (iZ i)), (2, .int (iZ w)), (3, .ref ob)] rfl (Nat.le_of_ble_eq_true rfl) (by decide +kernel) rfl ?_
  intro pp ee ss mm below meth cd mx mb mr mml mo mts mlk hK hsz hA hE hXt
  generalize ([.ref (o 0), .int (iZ i), .int (iZ w), .ref ob] : List Value).toArray = args at mts ⊢
  obtain ⟨wst, hw0⟩ : ∃ wst, wst = (wBq y o a S tb x ln sm (sav a) p6 ++ wO1 y ob g) := ⟨_, rfl⟩
  replace hE : zE (va_A wst sz) ss ss.heap := by rw [hw0]; exact hE
  replace hA : ∀ q, ss.heap.size ≤ q → va_A wst sz q := by rw [hw0]; exact hA
  obtain ⟨Q, hQ⟩ : ∃ Q, Q = MQ below (va_Qi (fun (r : Int32) (u : (Nat → Nat → Nat) × (Nat → Nat → Int → Int) × (Nat → Int64)) => r = iZ (thIn i (f 10 - 1) w 1) ∧ ((thIn i (f 10 - 1) w 1) = 0 → u.2.2 0 = lZ (wz (f (111 + 2 * (f 10 - 1 - i) + w)))) ∧ Tie f sv x sm ln u.2.1) (zB D vwCl (zT y) wst sz (fun u : (Nat → Nat → Nat) × (Nat → Nat → Int → Int) × (Nat → Int64) => wBq y o u.1 u.2.1 tb x ln sm (sav u.1) p6 ++ wO1 y ob u.2.2)) (va_A wst sz)) args ss 1 6 (va_A wst sz) := ⟨_, rfl⟩
  have hstart : Gz pp l ee ({ frames := 7, cells := 1, slots := 6, locals := 113 } : Room) ss mm args below meth cd 5 0 0 Q (Zw D vwCl (va_A wst sz) ss (wBq y o a S tb x ln sm (sav a) p6 ++ wO1 y ob g)) 0 [(0, .ref (o 0)), (1, .int (iZ i)), (2, .int (iZ w)), (3, .ref ob)] [] := by
    refine z_aload_n mx mb dL_dispatch_0 rfl 3 rfl ?_
    refine z_iconst mx mb dL_dispatch_1 ?_
    refine z_aload_n mx mb dL_dispatch_2 rfl 0 rfl ?_
    refine z_iload_n mx mb dL_dispatch_3 rfl 1 rfl ?_
    refine z_iload_n mx mb dL_dispatch_4 rfl 2 rfl ?_
    rcases thIn_c i (f 10) w 1 with ⟨e0, h1, h2⟩ | ⟨e0, h1⟩ | ⟨e0, h1, h2⟩
    · refine z_callI (wa := []) (wc := wBq y o a S tb x ln sm (sav a) p6) (wb := wO1 y ob g) (As := [.int (iZ i), .int (iZ w)]) (rest := [.int (iZ 0), .ref ob]) ⟨mx, mb, mml, mo, mts⟩ hK hA (fun sz => c_X4_dispatch l D sz y o a S tb x ln sm f i w hR hI kp h1 h2) (cwV 2 mts gL_dispatch_X4_dispatch rfl rfl rfl (by decide +kernel) ⟨Nat.le_of_ble_eq_true rfl, Nat.le_of_ble_eq_true rfl⟩) rfl 0 rfl rfl rfl rfl rfl (Nat.le_of_ble_eq_true rfl) ⟨Nat.le_of_ble_eq_true rfl, Nat.le_of_ble_eq_true rfl⟩ dL_dispatch_5 (fun r u hu => ?_)
      have hr := hu
      have tie2 := hT
      obtain rfl : r = iZ (f (111 + 2 * (f 10 - 1 - i) + w)) := hr
      show Gz pp l ee ({ frames := 7, cells := 1, slots := 6, locals := 113 } : Room) ss mm args below meth cd 5 0 0 Q (Zw D vwCl (va_A wst sz) ss (wBq y o a S tb x ln sm (sav a) p6 ++ wO1 y ob g)) 8 [(0, .ref (o 0)), (1, .int (iZ i)), (2, .int (iZ w)), (3, .ref ob)] [.int (iZ (f (111 + 2 * (f 10 - 1 - i) + w))), .int (iZ 0), .ref ob]
      refine z_i2lw mx mb dL_dispatch_8 ?_
      refine z_last mx mb hK 94 3 rfl rfl dL_dispatch_9 (wBq y o a S tb x ln sm (sav a) p6 ++ wO1 y ob (vp_updL g 0 (lZ (wz (f (111 + 2 * (f 10 - 1 - i) + w)))))) rfl ?_
      refine z_goto (tgt := 21) mx mb dL_dispatch_10 (by decide) ?_
      refine z_iconst mx mb dL_dispatch_21 ?_
      rw [hQ]
      refine z_widen (k1 := 1) (n1 := 6) (by decide) (by decide) ?_
      exact z_retI mx mb mr mlk hK (a, S, vp_updL g 0 (lZ (wz (f (111 + 2 * (f 10 - 1 - i) + w))))) ⟨by rw [e0], fun _ => rfl, by exact tie2⟩ (by rfl) dL_dispatch_22
    · refine z_callXc (wa := []) (wc := wBq y o a S tb x ln sm (sav a) p6) (wb := wO1 y ob g) (As := [.int (iZ i), .int (iZ w)]) (rest := [.int (iZ 0), .ref ob]) ⟨mx, mb, mml, mo, mts⟩ hK hA hE (fun sz => c_X4_dispatch_t1 l hl0 D sz y o a S tb x ln sm f i w hR hI kp h9i h9w h1) (cwV 2 mts gL_dispatch_X4_dispatch rfl rfl rfl (by decide +kernel) ⟨Nat.le_of_ble_eq_true rfl, Nat.le_of_ble_eq_true rfl⟩) rfl 0 rfl rfl rfl rfl rfl (Nat.le_of_ble_eq_true rfl) ⟨Nat.le_of_ble_eq_true rfl, Nat.le_of_ble_eq_true rfl⟩ dL_dispatch_5 [] (tE (0, 10, 13, 13)) [tE (0, 10, 17, 28)] (by rw [hXt]; rfl) (fun z hz => nomatch hz) (by decide) (by decide) (mts _ (List.mem_of_getElem? (i := 1) rfl)) (eW_use (List.mem_of_getElem? (i := 3) rfl) (hE.2.2.2.1 _ (List.mem_of_getElem? (i := 3) rfl))) (tgt := 13) rfl (fun q9 => ?_)
      show Gz pp l ee ({ frames := 7, cells := 1, slots := 6, locals := 113 } : Room) ss mm args below meth cd 5 1 6 Q (Zw D vwCl (va_A wst sz) ss (wBq y o a S tb x ln sm (sav a) p6 ++ wO1 y ob g)) 13 [(0, .ref (o 0)), (1, .int (iZ i)), (2, .int (iZ w)), (3, .ref ob)] [.ref q9]
      refine z_astore mx mb dL_dispatch_13 (by decide) [(4, .ref q9), (0, .ref (o 0)), (1, .int (iZ i)), (2, .int (iZ w)), (3, .ref ob)] rfl ?_
      refine z_iconst mx mb dL_dispatch_15 ?_
      rw [hQ]
      exact z_retI mx mb mr mlk hK (a, S, g) ⟨by rw [e0], fun h => absurd (e0.symm.trans h) (by decide), by exact hT⟩ (by rfl) dL_dispatch_16
    · refine z_callXc (wa := []) (wc := wBq y o a S tb x ln sm (sav a) p6) (wb := wO1 y ob g) (As := [.int (iZ i), .int (iZ w)]) (rest := [.int (iZ 0), .ref ob]) ⟨mx, mb, mml, mo, mts⟩ hK hA hE (fun sz => c_X4_dispatch_t2 l hl0 D sz y o a S tb x ln sm f i w hR hI kp h9w h1 h2) (cwV 2 mts gL_dispatch_X4_dispatch rfl rfl rfl (by decide +kernel) ⟨Nat.le_of_ble_eq_true rfl, Nat.le_of_ble_eq_true rfl⟩) rfl 0 rfl rfl rfl rfl rfl (Nat.le_of_ble_eq_true rfl) ⟨Nat.le_of_ble_eq_true rfl, Nat.le_of_ble_eq_true rfl⟩ dL_dispatch_5 [tE (0, 10, 13, 13)] (tE (0, 10, 17, 28)) [] (by rw [hXt]; rfl) (fun z hz => by obtain rfl := List.mem_singleton.mp hz; exact Or.inr ⟨by decide, _, (mts _ (List.mem_of_getElem? (i := 1) rfl)), hE.2.2.1.2.2.2.1⟩) (by decide) (by decide) (mts _ (List.mem_of_getElem? (i := 2) rfl)) (eW_use (List.mem_of_getElem? (i := 5) rfl) (hE.2.2.2.1 _ (List.mem_of_getElem? (i := 5) rfl))) (tgt := 17) rfl (fun q9 => ?_)
      show Gz pp l ee ({ frames := 7, cells := 1, slots := 6, locals := 113 } : Room) ss mm args below meth cd 5 1 6 Q (Zw D vwCl (va_A wst sz) ss (wBq y o a S tb x ln sm (sav a) p6 ++ wO1 y ob g)) 17 [(0, .ref (o 0)), (1, .int (iZ i)), (2, .int (iZ w)), (3, .ref ob)] [.ref q9]
      refine z_astore mx mb dL_dispatch_17 (by decide) [(4, .ref q9), (0, .ref (o 0)), (1, .int (iZ i)), (2, .int (iZ w)), (3, .ref ob)] rfl ?_
      refine z_iconst mx mb dL_dispatch_19 ?_
      rw [hQ]
      exact z_retI mx mb mr mlk hK (a, S, g) ⟨by rw [e0], fun h => absurd (e0.symm.trans h) (by decide), by exact hT⟩ (by rfl) dL_dispatch_20
  subst hQ
  subst hw0
  exact hstart

set_option maxRecDepth 100000 in
set_option maxHeartbeats 4000000 in
theorem c_L_why (l : Launch) (hl0 : l.stackTraces = false) (D : va_G) (sz : Nat) (y : Nat → ClassId) (o : Nat → Nat) (a : Nat → Nat → Nat) (S : Nat → Nat → Int → Int) (tb : Nat → Nat) (x : Int → Int) (ln sm : Int) (f sv : Int → Int) (t : Int) (ob : Nat) (g : Nat → Int64) (h9t : -2147483648 ≤ t ∧ t ≤ 2147483647) (hT : Tie f sv x sm ln S) : Met l yL_why wsL_why ({ frames := 8, cells := 1, slots := 6, locals := 132 } : Room) (zPe D vwCl (zT y) (wBq y o a S tb x ln sm (sav a) p6 ++ wO1 y ob g) sz [.ref (o 0), .int (iZ t), .ref ob]) (va_Qi (fun (r : Int32) (u : (Nat → Nat → Nat) × (Nat → Nat → Int → Int) × (Nat → Int64)) => r = iZ (thOne t (f 2 - 1)) ∧ ((thOne t (f 2 - 1)) = 0 → u.2.2 0 = lZ (wz (whyOf f t))) ∧ Tie f sv x sm ln u.2.1) (zB D vwCl (zT y) (wBq y o a S tb x ln sm (sav a) p6 ++ wO1 y ob g) sz (fun u : (Nat → Nat → Nat) × (Nat → Nat → Int → Int) × (Nat → Int64) => wBq y o u.1 u.2.1 tb x ln sm (sav u.1) p6 ++ wO1 y ob u.2.2)) (va_A (wBq y o a S tb x ln sm (sav a) p6 ++ wO1 y ob g) sz)) 1 6 (va_A (wBq y o a S tb x ln sm (sav a) p6 ++ wO1 y ob g) sz) := by
  obtain ⟨⟨hR, hI, kp⟩, hsc, hTS, hl, htx⟩ := id hT
  refine z_headH (cc := cL_why) (maxL := 4) (ret := some .int) (hh := [(0, 9, 12, 13)]) [(0, .ref (o 0)), (1, .int (iZ t)), (2, .ref ob)] rfl (Nat.le_of_ble_eq_true rfl) (by decide +kernel) rfl ?_
  intro pp ee ss mm below meth cd mx mb mr mml mo mts mlk hK hsz hA hE hXt
  generalize ([.ref (o 0), .int (iZ t), .ref ob] : List Value).toArray = args at mts ⊢
  obtain ⟨wst, hw0⟩ : ∃ wst, wst = (wBq y o a S tb x ln sm (sav a) p6 ++ wO1 y ob g) := ⟨_, rfl⟩
  replace hE : zE (va_A wst sz) ss ss.heap := by rw [hw0]; exact hE
  replace hA : ∀ q, ss.heap.size ≤ q → va_A wst sz q := by rw [hw0]; exact hA
  obtain ⟨Q, hQ⟩ : ∃ Q, Q = MQ below (va_Qi (fun (r : Int32) (u : (Nat → Nat → Nat) × (Nat → Nat → Int → Int) × (Nat → Int64)) => r = iZ (thOne t (f 2 - 1)) ∧ ((thOne t (f 2 - 1)) = 0 → u.2.2 0 = lZ (wz (whyOf f t))) ∧ Tie f sv x sm ln u.2.1) (zB D vwCl (zT y) wst sz (fun u : (Nat → Nat → Nat) × (Nat → Nat → Int → Int) × (Nat → Int64) => wBq y o u.1 u.2.1 tb x ln sm (sav u.1) p6 ++ wO1 y ob u.2.2)) (va_A wst sz)) args ss 1 6 (va_A wst sz) := ⟨_, rfl⟩
  have hstart : Gz pp l ee ({ frames := 8, cells := 1, slots := 6, locals := 132 } : Room) ss mm args below meth cd 4 0 0 Q (Zw D vwCl (va_A wst sz) ss (wBq y o a S tb x ln sm (sav a) p6 ++ wO1 y ob g)) 0 [(0, .ref (o 0)), (1, .int (iZ t)), (2, .ref ob)] [] := by
    refine z_aload_n mx mb dL_why_0 rfl 2 rfl ?_
    refine z_iconst mx mb dL_why_1 ?_
    refine z_aload_n mx mb dL_why_2 rfl 0 rfl ?_
    refine z_iload_n mx mb dL_why_3 rfl 1 rfl ?_
    rcases thOne_c t (f 2) with ⟨e0, h1⟩ | ⟨e0, h1⟩
    · refine z_callI (wa := []) (wc := wBq y o a S tb x ln sm (sav a) p6) (wb := wO1 y ob g) (As := [.int (iZ t)]) (rest := [.int (iZ 0), .ref ob]) ⟨mx, mb, mml, mo, mts⟩ hK hA (fun sz => c_X4_why l D sz y o a S tb x ln sm f t hR hI kp h1) (cwV 1 mts gL_why_X4_why rfl rfl rfl (by decide +kernel) ⟨Nat.le_of_ble_eq_true rfl, Nat.le_of_ble_eq_true rfl⟩) rfl 0 rfl rfl rfl rfl rfl (Nat.le_of_ble_eq_true rfl) ⟨Nat.le_of_ble_eq_true rfl, Nat.le_of_ble_eq_true rfl⟩ dL_why_4 (fun r u hu => ?_)
      have hr := hu
      have tie2 := hT
      obtain rfl : r = iZ (whyOf f t) := hr
      show Gz pp l ee ({ frames := 8, cells := 1, slots := 6, locals := 132 } : Room) ss mm args below meth cd 4 0 0 Q (Zw D vwCl (va_A wst sz) ss (wBq y o a S tb x ln sm (sav a) p6 ++ wO1 y ob g)) 7 [(0, .ref (o 0)), (1, .int (iZ t)), (2, .ref ob)] [.int (iZ (whyOf f t)), .int (iZ 0), .ref ob]
      refine z_i2lw mx mb dL_why_7 ?_
      refine z_last mx mb hK 94 3 rfl rfl dL_why_8 (wBq y o a S tb x ln sm (sav a) p6 ++ wO1 y ob (vp_updL g 0 (lZ (wz (whyOf f t))))) rfl ?_
      refine z_goto (tgt := 15) mx mb dL_why_9 (by decide) ?_
      refine z_iconst mx mb dL_why_15 ?_
      rw [hQ]
      refine z_widen (k1 := 1) (n1 := 6) (by decide) (by decide) ?_
      exact z_retI mx mb mr mlk hK (a, S, vp_updL g 0 (lZ (wz (whyOf f t)))) ⟨by rw [e0], fun _ => rfl, by exact tie2⟩ (by rfl) dL_why_16
    · refine z_callXc (wa := []) (wc := wBq y o a S tb x ln sm (sav a) p6) (wb := wO1 y ob g) (As := [.int (iZ t)]) (rest := [.int (iZ 0), .ref ob]) ⟨mx, mb, mml, mo, mts⟩ hK hA hE (fun sz => c_X4_why_t1 l hl0 D sz y o a S tb x ln sm f t hR hI kp h9t h1) (cwV 1 mts gL_why_X4_why rfl rfl rfl (by decide +kernel) ⟨Nat.le_of_ble_eq_true rfl, Nat.le_of_ble_eq_true rfl⟩) rfl 0 rfl rfl rfl rfl rfl (Nat.le_of_ble_eq_true rfl) ⟨Nat.le_of_ble_eq_true rfl, Nat.le_of_ble_eq_true rfl⟩ dL_why_4 [] (tE (0, 9, 12, 13)) [] (by rw [hXt]; rfl) (fun z hz => nomatch hz) (by decide) (by decide) (mts _ (List.mem_of_getElem? (i := 1) rfl)) (eW_use (List.mem_of_getElem? (i := 3) rfl) (hE.2.2.2.1 _ (List.mem_of_getElem? (i := 3) rfl))) (tgt := 12) rfl (fun q9 => ?_)
      show Gz pp l ee ({ frames := 8, cells := 1, slots := 6, locals := 132 } : Room) ss mm args below meth cd 4 1 6 Q (Zw D vwCl (va_A wst sz) ss (wBq y o a S tb x ln sm (sav a) p6 ++ wO1 y ob g)) 12 [(0, .ref (o 0)), (1, .int (iZ t)), (2, .ref ob)] [.ref q9]
      refine z_astore_n mx mb dL_why_12 rfl (by decide) [(3, .ref q9), (0, .ref (o 0)), (1, .int (iZ t)), (2, .ref ob)] rfl ?_
      refine z_iconst mx mb dL_why_13 ?_
      rw [hQ]
      exact z_retI mx mb mr mlk hK (a, S, g) ⟨by rw [e0], fun h => absurd (e0.symm.trans h) (by decide), by exact hT⟩ (by rfl) dL_why_14
  subst hQ
  subst hw0
  exact hstart

set_option maxRecDepth 100000 in
set_option maxHeartbeats 4000000 in
theorem c_L_ticksToStation (l : Launch) (hl0 : l.stackTraces = false) (D : va_G) (sz : Nat) (y : Nat → ClassId) (o : Nat → Nat) (a : Nat → Nat → Nat) (S : Nat → Nat → Int → Int) (tb : Nat → Nat) (x : Int → Int) (ln sm : Int) (f sv : Int → Int) (t : Int) (ob : Nat) (g : Nat → Int64) (h9t : -2147483648 ≤ t ∧ t ≤ 2147483647) (hT : Tie f sv x sm ln S) : Met l yL_ticksToStation wsL_ticksToStation ({ frames := 8, cells := 1, slots := 6, locals := 134 } : Room) (zPe D vwCl (zT y) (wBq y o a S tb x ln sm (sav a) p6 ++ wO1 y ob g) sz [.ref (o 0), .int (iZ t), .ref ob]) (va_Qi (fun (r : Int32) (u : (Nat → Nat → Nat) × (Nat → Nat → Int → Int) × (Nat → Int64)) => r = iZ (thOne t (f 2 - 1)) ∧ ((thOne t (f 2 - 1)) = 0 → u.2.2 0 = lZ (wz (toStation f t))) ∧ Tie f sv x sm ln u.2.1) (zB D vwCl (zT y) (wBq y o a S tb x ln sm (sav a) p6 ++ wO1 y ob g) sz (fun u : (Nat → Nat → Nat) × (Nat → Nat → Int → Int) × (Nat → Int64) => wBq y o u.1 u.2.1 tb x ln sm (sav u.1) p6 ++ wO1 y ob u.2.2)) (va_A (wBq y o a S tb x ln sm (sav a) p6 ++ wO1 y ob g) sz)) 1 6 (va_A (wBq y o a S tb x ln sm (sav a) p6 ++ wO1 y ob g) sz) := by
  obtain ⟨⟨hR, hI, kp⟩, hsc, hTS, hl, htx⟩ := id hT
  refine z_headH (cc := cL_ticksToStation) (maxL := 4) (ret := some .int) (hh := [(0, 9, 12, 13)]) [(0, .ref (o 0)), (1, .int (iZ t)), (2, .ref ob)] rfl (Nat.le_of_ble_eq_true rfl) (by decide +kernel) rfl ?_
  intro pp ee ss mm below meth cd mx mb mr mml mo mts mlk hK hsz hA hE hXt
  generalize ([.ref (o 0), .int (iZ t), .ref ob] : List Value).toArray = args at mts ⊢
  obtain ⟨wst, hw0⟩ : ∃ wst, wst = (wBq y o a S tb x ln sm (sav a) p6 ++ wO1 y ob g) := ⟨_, rfl⟩
  replace hE : zE (va_A wst sz) ss ss.heap := by rw [hw0]; exact hE
  replace hA : ∀ q, ss.heap.size ≤ q → va_A wst sz q := by rw [hw0]; exact hA
  obtain ⟨Q, hQ⟩ : ∃ Q, Q = MQ below (va_Qi (fun (r : Int32) (u : (Nat → Nat → Nat) × (Nat → Nat → Int → Int) × (Nat → Int64)) => r = iZ (thOne t (f 2 - 1)) ∧ ((thOne t (f 2 - 1)) = 0 → u.2.2 0 = lZ (wz (toStation f t))) ∧ Tie f sv x sm ln u.2.1) (zB D vwCl (zT y) wst sz (fun u : (Nat → Nat → Nat) × (Nat → Nat → Int → Int) × (Nat → Int64) => wBq y o u.1 u.2.1 tb x ln sm (sav u.1) p6 ++ wO1 y ob u.2.2)) (va_A wst sz)) args ss 1 6 (va_A wst sz) := ⟨_, rfl⟩
  have hstart : Gz pp l ee ({ frames := 8, cells := 1, slots := 6, locals := 134 } : Room) ss mm args below meth cd 4 0 0 Q (Zw D vwCl (va_A wst sz) ss (wBq y o a S tb x ln sm (sav a) p6 ++ wO1 y ob g)) 0 [(0, .ref (o 0)), (1, .int (iZ t)), (2, .ref ob)] [] := by
    refine z_aload_n mx mb dL_ticksToStation_0 rfl 2 rfl ?_
    refine z_iconst mx mb dL_ticksToStation_1 ?_
    refine z_aload_n mx mb dL_ticksToStation_2 rfl 0 rfl ?_
    refine z_iload_n mx mb dL_ticksToStation_3 rfl 1 rfl ?_
    rcases thOne_c t (f 2) with ⟨e0, h1⟩ | ⟨e0, h1⟩
    · refine z_callI (wa := []) (wc := wBq y o a S tb x ln sm (sav a) p6) (wb := wO1 y ob g) (As := [.int (iZ t)]) (rest := [.int (iZ 0), .ref ob]) ⟨mx, mb, mml, mo, mts⟩ hK hA (fun sz => c_X4_ticksToStation l D sz y o a S tb x ln sm f t hR hI kp h1) (cwV 1 mts gL_ticksToStation_X4_ticksToStation rfl rfl rfl (by decide +kernel) ⟨Nat.le_of_ble_eq_true rfl, Nat.le_of_ble_eq_true rfl⟩) rfl 0 rfl rfl rfl rfl rfl (Nat.le_of_ble_eq_true rfl) ⟨Nat.le_of_ble_eq_true rfl, Nat.le_of_ble_eq_true rfl⟩ dL_ticksToStation_4 (fun r u hu => ?_)
      obtain ⟨hr, v0⟩ := hu
      have tie2 : Tie f sv x sm ln u := tie_trial hT v0
      obtain rfl : r = iZ (toStation f t) := hr
      show Gz pp l ee ({ frames := 8, cells := 1, slots := 6, locals := 134 } : Room) ss mm args below meth cd 4 0 0 Q (Zw D vwCl (va_A wst sz) ss (wBq y o a u tb x ln sm (sav a) p6 ++ wO1 y ob g)) 7 [(0, .ref (o 0)), (1, .int (iZ t)), (2, .ref ob)] [.int (iZ (toStation f t)), .int (iZ 0), .ref ob]
      refine z_i2lw mx mb dL_ticksToStation_7 ?_
      refine z_last mx mb hK 94 3 rfl rfl dL_ticksToStation_8 (wBq y o a u tb x ln sm (sav a) p6 ++ wO1 y ob (vp_updL g 0 (lZ (wz (toStation f t))))) rfl ?_
      refine z_goto (tgt := 15) mx mb dL_ticksToStation_9 (by decide) ?_
      refine z_iconst mx mb dL_ticksToStation_15 ?_
      rw [hQ]
      refine z_widen (k1 := 1) (n1 := 6) (by decide) (by decide) ?_
      exact z_retI mx mb mr mlk hK (a, u, vp_updL g 0 (lZ (wz (toStation f t)))) ⟨by rw [e0], fun _ => rfl, by exact tie2⟩ (by rfl) dL_ticksToStation_16
    · refine z_callXc (wa := []) (wc := wBq y o a S tb x ln sm (sav a) p6) (wb := wO1 y ob g) (As := [.int (iZ t)]) (rest := [.int (iZ 0), .ref ob]) ⟨mx, mb, mml, mo, mts⟩ hK hA hE (fun sz => c_X4_ticksToStation_t1 l hl0 D sz y o a S tb x ln sm f t hR hI kp h9t h1) (cwV 1 mts gL_ticksToStation_X4_ticksToStation rfl rfl rfl (by decide +kernel) ⟨Nat.le_of_ble_eq_true rfl, Nat.le_of_ble_eq_true rfl⟩) rfl 0 rfl rfl rfl rfl rfl (Nat.le_of_ble_eq_true rfl) ⟨Nat.le_of_ble_eq_true rfl, Nat.le_of_ble_eq_true rfl⟩ dL_ticksToStation_4 [] (tE (0, 9, 12, 13)) [] (by rw [hXt]; rfl) (fun z hz => nomatch hz) (by decide) (by decide) (mts _ (List.mem_of_getElem? (i := 1) rfl)) (eW_use (List.mem_of_getElem? (i := 3) rfl) (hE.2.2.2.1 _ (List.mem_of_getElem? (i := 3) rfl))) (tgt := 12) rfl (fun q9 => ?_)
      show Gz pp l ee ({ frames := 8, cells := 1, slots := 6, locals := 134 } : Room) ss mm args below meth cd 4 1 6 Q (Zw D vwCl (va_A wst sz) ss (wBq y o a S tb x ln sm (sav a) p6 ++ wO1 y ob g)) 12 [(0, .ref (o 0)), (1, .int (iZ t)), (2, .ref ob)] [.ref q9]
      refine z_astore_n mx mb dL_ticksToStation_12 rfl (by decide) [(3, .ref q9), (0, .ref (o 0)), (1, .int (iZ t)), (2, .ref ob)] rfl ?_
      refine z_iconst mx mb dL_ticksToStation_13 ?_
      rw [hQ]
      exact z_retI mx mb mr mlk hK (a, S, g) ⟨by rw [e0], fun h => absurd (e0.symm.trans h) (by decide), by exact hT⟩ (by rfl) dL_ticksToStation_14
  subst hQ
  subst hw0
  exact hstart

set_option maxRecDepth 100000 in
set_option maxHeartbeats 4000000 in
theorem c_L_dispatchesWith (l : Launch) (hl0 : l.stackTraces = false) (D : va_G) (sz : Nat) (y : Nat → ClassId) (o : Nat → Nat) (a : Nat → Nat → Nat) (S : Nat → Nat → Int → Int) (tb : Nat → Nat) (x : Int → Int) (ln sm : Int) (f sv : Int → Int) (gp : Int) (ob : Nat) (g : Nat → Int64) (h9gp : -2147483648 ≤ gp ∧ gp ≤ 2147483647) (hT : Tie f sv x sm ln S) : Met l yL_dispatchesWith wsL_dispatchesWith ({ frames := 7, cells := 1, slots := 6, locals := 132 } : Room) (zPe D vwCl (zT y) (wBq y o a S tb x ln sm (sav a) p6 ++ wO1 y ob g) sz [.ref (o 0), .int (iZ gp), .ref ob]) (va_Qi (fun (r : Int32) (u : (Nat → Nat → Nat) × (Nat → Nat → Int → Int) × (Nat → Int64)) => r = iZ (thOne gp 500) ∧ ((thOne gp 500) = 0 → u.2.2 0 = lZ (wz (dispWith f gp))) ∧ Tie f sv x sm ln u.2.1) (zB D vwCl (zT y) (wBq y o a S tb x ln sm (sav a) p6 ++ wO1 y ob g) sz (fun u : (Nat → Nat → Nat) × (Nat → Nat → Int → Int) × (Nat → Int64) => wBq y o u.1 u.2.1 tb x ln sm (sav u.1) p6 ++ wO1 y ob u.2.2)) (va_A (wBq y o a S tb x ln sm (sav a) p6 ++ wO1 y ob g) sz)) 1 6 (va_A (wBq y o a S tb x ln sm (sav a) p6 ++ wO1 y ob g) sz) := by
  obtain ⟨⟨hR, hI, kp⟩, hsc, hTS, hl, htx⟩ := id hT
  refine z_headH (cc := cL_dispatchesWith) (maxL := 4) (ret := some .int) (hh := [(0, 9, 12, 28)]) [(0, .ref (o 0)), (1, .int (iZ gp)), (2, .ref ob)] rfl (Nat.le_of_ble_eq_true rfl) (by decide +kernel) rfl ?_
  intro pp ee ss mm below meth cd mx mb mr mml mo mts mlk hK hsz hA hE hXt
  generalize ([.ref (o 0), .int (iZ gp), .ref ob] : List Value).toArray = args at mts ⊢
  obtain ⟨wst, hw0⟩ : ∃ wst, wst = (wBq y o a S tb x ln sm (sav a) p6 ++ wO1 y ob g) := ⟨_, rfl⟩
  replace hE : zE (va_A wst sz) ss ss.heap := by rw [hw0]; exact hE
  replace hA : ∀ q, ss.heap.size ≤ q → va_A wst sz q := by rw [hw0]; exact hA
  obtain ⟨Q, hQ⟩ : ∃ Q, Q = MQ below (va_Qi (fun (r : Int32) (u : (Nat → Nat → Nat) × (Nat → Nat → Int → Int) × (Nat → Int64)) => r = iZ (thOne gp 500) ∧ ((thOne gp 500) = 0 → u.2.2 0 = lZ (wz (dispWith f gp))) ∧ Tie f sv x sm ln u.2.1) (zB D vwCl (zT y) wst sz (fun u : (Nat → Nat → Nat) × (Nat → Nat → Int → Int) × (Nat → Int64) => wBq y o u.1 u.2.1 tb x ln sm (sav u.1) p6 ++ wO1 y ob u.2.2)) (va_A wst sz)) args ss 1 6 (va_A wst sz) := ⟨_, rfl⟩
  have hstart : Gz pp l ee ({ frames := 7, cells := 1, slots := 6, locals := 132 } : Room) ss mm args below meth cd 4 0 0 Q (Zw D vwCl (va_A wst sz) ss (wBq y o a S tb x ln sm (sav a) p6 ++ wO1 y ob g)) 0 [(0, .ref (o 0)), (1, .int (iZ gp)), (2, .ref ob)] [] := by
    refine z_aload_n mx mb dL_dispatchesWith_0 rfl 2 rfl ?_
    refine z_iconst mx mb dL_dispatchesWith_1 ?_
    refine z_aload_n mx mb dL_dispatchesWith_2 rfl 0 rfl ?_
    refine z_iload_n mx mb dL_dispatchesWith_3 rfl 1 rfl ?_
    rcases thOne_d gp 500 with ⟨e0, h1⟩ | ⟨e0, h1⟩
    · refine z_callIE (wa := []) (wc := wBq y o a S tb x ln sm (sav a) p6) (wb := wO1 y ob g) (As := [.int (iZ gp)]) (rest := [.int (iZ 0), .ref ob]) ⟨mx, mb, mml, mo, mts⟩ hK hA hE (fun sz => c_X4_dispatchesWith l D sz y o a S tb x ln sm f gp hR hI kp h1) (cwV 1 mts gL_dispatchesWith_X4_dispatchesWith rfl rfl rfl (by decide +kernel) ⟨Nat.le_of_ble_eq_true rfl, Nat.le_of_ble_eq_true rfl⟩) rfl 0 rfl rfl rfl rfl rfl (Nat.le_of_ble_eq_true rfl) ⟨Nat.le_of_ble_eq_true rfl, Nat.le_of_ble_eq_true rfl⟩ dL_dispatchesWith_4 (fun r u hu => ?_)
      obtain ⟨hr, v0⟩ := hu
      have tie2 : Tie f sv x sm ln u := tie_trial hT v0
      obtain rfl : r = iZ (dispWith f gp) := hr
      show Gz pp l ee ({ frames := 7, cells := 1, slots := 6, locals := 132 } : Room) ss mm args below meth cd 4 0 0 Q (Zw D vwCl (va_A wst sz) ss (wBq y o a u tb x ln sm (sav a) p6 ++ wO1 y ob g)) 7 [(0, .ref (o 0)), (1, .int (iZ gp)), (2, .ref ob)] [.int (iZ (dispWith f gp)), .int (iZ 0), .ref ob]
      refine z_i2lw mx mb dL_dispatchesWith_7 ?_
      refine z_last mx mb hK 94 3 rfl rfl dL_dispatchesWith_8 (wBq y o a u tb x ln sm (sav a) p6 ++ wO1 y ob (vp_updL g 0 (lZ (wz (dispWith f gp))))) rfl ?_
      refine z_goto (tgt := 15) mx mb dL_dispatchesWith_9 (by decide) ?_
      refine z_iconst mx mb dL_dispatchesWith_15 ?_
      rw [hQ]
      refine z_widen (k1 := 1) (n1 := 6) (by decide) (by decide) ?_
      exact z_retI mx mb mr mlk hK (a, u, vp_updL g 0 (lZ (wz (dispWith f gp)))) ⟨by rw [e0], fun _ => rfl, by exact tie2⟩ (by rfl) dL_dispatchesWith_16
    · refine z_callXc (wa := []) (wc := wBq y o a S tb x ln sm (sav a) p6) (wb := wO1 y ob g) (As := [.int (iZ gp)]) (rest := [.int (iZ 0), .ref ob]) ⟨mx, mb, mml, mo, mts⟩ hK hA hE (fun sz => c_X4_dispatchesWith_t l hl0 D sz y o a S tb x ln sm f gp hR hI kp h9gp h1) (cwV 1 mts gL_dispatchesWith_X4_dispatchesWith rfl rfl rfl (by decide +kernel) ⟨Nat.le_of_ble_eq_true rfl, Nat.le_of_ble_eq_true rfl⟩) rfl 0 rfl rfl rfl rfl rfl (Nat.le_of_ble_eq_true rfl) ⟨Nat.le_of_ble_eq_true rfl, Nat.le_of_ble_eq_true rfl⟩ dL_dispatchesWith_4 [] (tE (0, 9, 12, 28)) [] (by rw [hXt]; rfl) (fun z hz => nomatch hz) (by decide) (by decide) (mts _ (List.mem_of_getElem? (i := 1) rfl)) (eW_use (List.mem_of_getElem? (i := 5) rfl) (hE.2.2.2.1 _ (List.mem_of_getElem? (i := 5) rfl))) (tgt := 12) rfl (fun q9 => ?_)
      show Gz pp l ee ({ frames := 7, cells := 1, slots := 6, locals := 132 } : Room) ss mm args below meth cd 4 1 6 Q (Zw D vwCl (va_A wst sz) ss (wBq y o a S tb x ln sm (sav a) p6 ++ wO1 y ob g)) 12 [(0, .ref (o 0)), (1, .int (iZ gp)), (2, .ref ob)] [.ref q9]
      refine z_astore_n mx mb dL_dispatchesWith_12 rfl (by decide) [(3, .ref q9), (0, .ref (o 0)), (1, .int (iZ gp)), (2, .ref ob)] rfl ?_
      refine z_iconst mx mb dL_dispatchesWith_13 ?_
      rw [hQ]
      exact z_retI mx mb mr mlk hK (a, S, g) ⟨by rw [e0], fun h => absurd (e0.symm.trans h) (by decide), by exact hT⟩ (by rfl) dL_dispatchesWith_14
  subst hQ
  subst hw0
  exact hstart

set_option maxRecDepth 100000 in
set_option maxHeartbeats 4000000 in
theorem c_L_leastSquare (l : Launch) (hl0 : l.stackTraces = false) (D : va_G) (sz : Nat) (y : Nat → ClassId) (o : Nat → Nat) (a : Nat → Nat → Nat) (S : Nat → Nat → Int → Int) (tb : Nat → Nat) (x : Int → Int) (ln sm : Int) (f sv : Int → Int) (c : Int) (ob : Nat) (g : Nat → Int64) (h9c : -2147483648 ≤ c ∧ c ≤ 2147483647) (hT : Tie f sv x sm ln S) : Met l yL_leastSquare wsL_leastSquare ({ frames := 8, cells := 1, slots := 6, locals := 132 } : Room) (zPe D vwCl (zT y) (wBq y o a S tb x ln sm (sav a) p6 ++ wO1 y ob g) sz [.ref (o 0), .int (iZ c), .ref ob]) (va_Qi (fun (r : Int32) (u : (Nat → Nat → Nat) × (Nat → Nat → Int → Int) × (Nat → Int64)) => r = iZ (thOne c (f 0 - 1)) ∧ ((thOne c (f 0 - 1)) = 0 → u.2.2 0 = lZ (wz (leastS f c))) ∧ Tie f sv x sm ln u.2.1) (zB D vwCl (zT y) (wBq y o a S tb x ln sm (sav a) p6 ++ wO1 y ob g) sz (fun u : (Nat → Nat → Nat) × (Nat → Nat → Int → Int) × (Nat → Int64) => wBq y o u.1 u.2.1 tb x ln sm (sav u.1) p6 ++ wO1 y ob u.2.2)) (va_A (wBq y o a S tb x ln sm (sav a) p6 ++ wO1 y ob g) sz)) 1 6 (va_A (wBq y o a S tb x ln sm (sav a) p6 ++ wO1 y ob g) sz) := by
  obtain ⟨⟨hR, hI, kp⟩, hsc, hTS, hl, htx⟩ := id hT
  refine z_headH (cc := cL_leastSquare) (maxL := 4) (ret := some .int) (hh := [(0, 9, 12, 13)]) [(0, .ref (o 0)), (1, .int (iZ c)), (2, .ref ob)] rfl (Nat.le_of_ble_eq_true rfl) (by decide +kernel) rfl ?_
  intro pp ee ss mm below meth cd mx mb mr mml mo mts mlk hK hsz hA hE hXt
  generalize ([.ref (o 0), .int (iZ c), .ref ob] : List Value).toArray = args at mts ⊢
  obtain ⟨wst, hw0⟩ : ∃ wst, wst = (wBq y o a S tb x ln sm (sav a) p6 ++ wO1 y ob g) := ⟨_, rfl⟩
  replace hE : zE (va_A wst sz) ss ss.heap := by rw [hw0]; exact hE
  replace hA : ∀ q, ss.heap.size ≤ q → va_A wst sz q := by rw [hw0]; exact hA
  obtain ⟨Q, hQ⟩ : ∃ Q, Q = MQ below (va_Qi (fun (r : Int32) (u : (Nat → Nat → Nat) × (Nat → Nat → Int → Int) × (Nat → Int64)) => r = iZ (thOne c (f 0 - 1)) ∧ ((thOne c (f 0 - 1)) = 0 → u.2.2 0 = lZ (wz (leastS f c))) ∧ Tie f sv x sm ln u.2.1) (zB D vwCl (zT y) wst sz (fun u : (Nat → Nat → Nat) × (Nat → Nat → Int → Int) × (Nat → Int64) => wBq y o u.1 u.2.1 tb x ln sm (sav u.1) p6 ++ wO1 y ob u.2.2)) (va_A wst sz)) args ss 1 6 (va_A wst sz) := ⟨_, rfl⟩
  have hstart : Gz pp l ee ({ frames := 8, cells := 1, slots := 6, locals := 132 } : Room) ss mm args below meth cd 4 0 0 Q (Zw D vwCl (va_A wst sz) ss (wBq y o a S tb x ln sm (sav a) p6 ++ wO1 y ob g)) 0 [(0, .ref (o 0)), (1, .int (iZ c)), (2, .ref ob)] [] := by
    refine z_aload_n mx mb dL_leastSquare_0 rfl 2 rfl ?_
    refine z_iconst mx mb dL_leastSquare_1 ?_
    refine z_aload_n mx mb dL_leastSquare_2 rfl 0 rfl ?_
    refine z_iload_n mx mb dL_leastSquare_3 rfl 1 rfl ?_
    rcases thOne_c c (f 0) with ⟨e0, h1⟩ | ⟨e0, h1⟩
    · refine z_callI (wa := []) (wc := wBq y o a S tb x ln sm (sav a) p6) (wb := wO1 y ob g) (As := [.int (iZ c)]) (rest := [.int (iZ 0), .ref ob]) ⟨mx, mb, mml, mo, mts⟩ hK hA (fun sz => c_X4_leastSquare l D sz y o a S tb x ln sm f c hR hI kp h1) (cwV 1 mts gL_leastSquare_X4_leastSquare rfl rfl rfl (by decide +kernel) ⟨Nat.le_of_ble_eq_true rfl, Nat.le_of_ble_eq_true rfl⟩) rfl 0 rfl rfl rfl rfl rfl (Nat.le_of_ble_eq_true rfl) ⟨Nat.le_of_ble_eq_true rfl, Nat.le_of_ble_eq_true rfl⟩ dL_leastSquare_4 (fun r u hu => ?_)
      have hr := hu
      have tie2 := hT
      obtain rfl : r = iZ (leastS f c) := hr
      show Gz pp l ee ({ frames := 8, cells := 1, slots := 6, locals := 132 } : Room) ss mm args below meth cd 4 0 0 Q (Zw D vwCl (va_A wst sz) ss (wBq y o a S tb x ln sm (sav a) p6 ++ wO1 y ob g)) 7 [(0, .ref (o 0)), (1, .int (iZ c)), (2, .ref ob)] [.int (iZ (leastS f c)), .int (iZ 0), .ref ob]
      refine z_i2lw mx mb dL_leastSquare_7 ?_
      refine z_last mx mb hK 94 3 rfl rfl dL_leastSquare_8 (wBq y o a S tb x ln sm (sav a) p6 ++ wO1 y ob (vp_updL g 0 (lZ (wz (leastS f c))))) rfl ?_
      refine z_goto (tgt := 15) mx mb dL_leastSquare_9 (by decide) ?_
      refine z_iconst mx mb dL_leastSquare_15 ?_
      rw [hQ]
      refine z_widen (k1 := 1) (n1 := 6) (by decide) (by decide) ?_
      exact z_retI mx mb mr mlk hK (a, S, vp_updL g 0 (lZ (wz (leastS f c)))) ⟨by rw [e0], fun _ => rfl, by exact tie2⟩ (by rfl) dL_leastSquare_16
    · refine z_callXc (wa := []) (wc := wBq y o a S tb x ln sm (sav a) p6) (wb := wO1 y ob g) (As := [.int (iZ c)]) (rest := [.int (iZ 0), .ref ob]) ⟨mx, mb, mml, mo, mts⟩ hK hA hE (fun sz => c_X4_leastSquare_t1 l hl0 D sz y o a S tb x ln sm f c hR hI kp h9c h1) (cwV 1 mts gL_leastSquare_X4_leastSquare rfl rfl rfl (by decide +kernel) ⟨Nat.le_of_ble_eq_true rfl, Nat.le_of_ble_eq_true rfl⟩) rfl 0 rfl rfl rfl rfl rfl (Nat.le_of_ble_eq_true rfl) ⟨Nat.le_of_ble_eq_true rfl, Nat.le_of_ble_eq_true rfl⟩ dL_leastSquare_4 [] (tE (0, 9, 12, 13)) [] (by rw [hXt]; rfl) (fun z hz => nomatch hz) (by decide) (by decide) (mts _ (List.mem_of_getElem? (i := 1) rfl)) (eW_use (List.mem_of_getElem? (i := 3) rfl) (hE.2.2.2.1 _ (List.mem_of_getElem? (i := 3) rfl))) (tgt := 12) rfl (fun q9 => ?_)
      show Gz pp l ee ({ frames := 8, cells := 1, slots := 6, locals := 132 } : Room) ss mm args below meth cd 4 1 6 Q (Zw D vwCl (va_A wst sz) ss (wBq y o a S tb x ln sm (sav a) p6 ++ wO1 y ob g)) 12 [(0, .ref (o 0)), (1, .int (iZ c)), (2, .ref ob)] [.ref q9]
      refine z_astore_n mx mb dL_leastSquare_12 rfl (by decide) [(3, .ref q9), (0, .ref (o 0)), (1, .int (iZ c)), (2, .ref ob)] rfl ?_
      refine z_iconst mx mb dL_leastSquare_13 ?_
      rw [hQ]
      exact z_retI mx mb mr mlk hK (a, S, g) ⟨by rw [e0], fun h => absurd (e0.symm.trans h) (by decide), by exact hT⟩ (by rfl) dL_leastSquare_14
  subst hQ
  subst hw0
  exact hstart

set_option maxRecDepth 100000 in
set_option maxHeartbeats 4000000 in
theorem c_L_append (l : Launch) (hl0 : l.stackTraces = false) (D : va_G) (sz : Nat) (y : Nat → ClassId) (o : Nat → Nat) (a : Nat → Nat → Nat) (S : Nat → Nat → Int → Int) (tb : Nat → Nat) (x : Int → Int) (ln sm : Int) (f sv : Int → Int) (v : Int) (ob : Nat) (g : Nat → Int64) (h9v : -2147483648 ≤ v ∧ v ≤ 2147483647) (hT : Tie f sv x sm ln S) : Met l yL_append wsL_append ({ frames := 7, cells := 1, slots := 6, locals := 111 } : Room) (zPe D vwCl (zT y) (wBq y o a S tb x ln sm (sav a) p6 ++ wO1 y ob g) sz [.ref (o 0), .int (iZ v), .ref ob]) (va_Qi (fun (r : Int32) (u : (Nat → Nat → Nat) × (Nat → Nat → Int → Int) × (Nat → Int64)) => r = iZ (thApp v ln) ∧ ((thApp v ln) = 0 → u.2.2 0 = lZ (wz (ln + 1))) ∧ Tie f sv (if thApp v ln = 0 then zu x ln v else x) sm (if thApp v ln = 0 then ln + 1 else ln) u.2.1) (zB D vwCl (zT y) (wBq y o a S tb x ln sm (sav a) p6 ++ wO1 y ob g) sz (fun u : (Nat → Nat → Nat) × (Nat → Nat → Int → Int) × (Nat → Int64) => wBq y o u.1 u.2.1 tb (if thApp v ln = 0 then zu x ln v else x) (if thApp v ln = 0 then ln + 1 else ln) sm (sav u.1) p6 ++ wO1 y ob u.2.2)) (va_A (wBq y o a S tb x ln sm (sav a) p6 ++ wO1 y ob g) sz)) 1 6 (va_A (wBq y o a S tb x ln sm (sav a) p6 ++ wO1 y ob g) sz) := by
  obtain ⟨⟨hR, hI, kp⟩, hsc, hTS, hl, htx⟩ := id hT
  refine z_headH (cc := cL_append) (maxL := 4) (ret := some .int) (hh := [(0, 9, 12, 28), (0, 9, 15, 15)]) [(0, .ref (o 0)), (1, .int (iZ v)), (2, .ref ob)] rfl (Nat.le_of_ble_eq_true rfl) (by decide +kernel) rfl ?_
  intro pp ee ss mm below meth cd mx mb mr mml mo mts mlk hK hsz hA hE hXt
  generalize ([.ref (o 0), .int (iZ v), .ref ob] : List Value).toArray = args at mts ⊢
  obtain ⟨wst, hw0⟩ : ∃ wst, wst = (wBq y o a S tb x ln sm (sav a) p6 ++ wO1 y ob g) := ⟨_, rfl⟩
  replace hE : zE (va_A wst sz) ss ss.heap := by rw [hw0]; exact hE
  replace hA : ∀ q, ss.heap.size ≤ q → va_A wst sz q := by rw [hw0]; exact hA
  obtain ⟨Q, hQ⟩ : ∃ Q, Q = MQ below (va_Qi (fun (r : Int32) (u : (Nat → Nat → Nat) × (Nat → Nat → Int → Int) × (Nat → Int64)) => r = iZ (thApp v ln) ∧ ((thApp v ln) = 0 → u.2.2 0 = lZ (wz (ln + 1))) ∧ Tie f sv (if thApp v ln = 0 then zu x ln v else x) sm (if thApp v ln = 0 then ln + 1 else ln) u.2.1) (zB D vwCl (zT y) wst sz (fun u : (Nat → Nat → Nat) × (Nat → Nat → Int → Int) × (Nat → Int64) => wBq y o u.1 u.2.1 tb (if thApp v ln = 0 then zu x ln v else x) (if thApp v ln = 0 then ln + 1 else ln) sm (sav u.1) p6 ++ wO1 y ob u.2.2)) (va_A wst sz)) args ss 1 6 (va_A wst sz) := ⟨_, rfl⟩
  have hstart : Gz pp l ee ({ frames := 7, cells := 1, slots := 6, locals := 111 } : Room) ss mm args below meth cd 4 0 0 Q (Zw D vwCl (va_A wst sz) ss (wBq y o a S tb x ln sm (sav a) p6 ++ wO1 y ob g)) 0 [(0, .ref (o 0)), (1, .int (iZ v)), (2, .ref ob)] [] := by
    refine z_aload_n mx mb dL_append_0 rfl 2 rfl ?_
    refine z_iconst mx mb dL_append_1 ?_
    refine z_aload_n mx mb dL_append_2 rfl 0 rfl ?_
    refine z_iload_n mx mb dL_append_3 rfl 1 rfl ?_
    rcases thApp_c v ln with ⟨e0, h1, h2⟩ | ⟨e0, h1⟩ | ⟨e0, h1, h2⟩
    · refine z_callI (wa := []) (wc := wBq y o a S tb x ln sm (sav a) p6) (wb := wO1 y ob g) (As := [.int (iZ v)]) (rest := [.int (iZ 0), .ref ob]) ⟨mx, mb, mml, mo, mts⟩ hK hA (fun sz => c_X4_append l D sz y o a S tb x ln sm f v h1 (by omega)) (cwV 1 mts gL_append_X4_append rfl rfl rfl (by decide +kernel) ⟨Nat.le_of_ble_eq_true rfl, Nat.le_of_ble_eq_true rfl⟩) rfl 0 rfl rfl rfl rfl rfl (Nat.le_of_ble_eq_true rfl) ⟨Nat.le_of_ble_eq_true rfl, Nat.le_of_ble_eq_true rfl⟩ dL_append_4 (fun r u hu => ?_)
      have hr := hu
      have tie2 : Tie f sv (zu x ln v) sm (ln + 1) S := tie_text hT (by omega) (fun k k0 k1 => by by_cases z : k = ln; (rw [z, zu_s]; omega); (rw [zu_n z]; exact htx k k0 k1))
      obtain rfl : r = iZ (ln + 1) := hr
      show Gz pp l ee ({ frames := 7, cells := 1, slots := 6, locals := 111 } : Room) ss mm args below meth cd 4 0 0 Q (Zw D vwCl (va_A wst sz) ss (wBq y o a S tb (zu x ln v) (ln + 1) sm (sav a) p6 ++ wO1 y ob g)) 7 [(0, .ref (o 0)), (1, .int (iZ v)), (2, .ref ob)] [.int (iZ (ln + 1)), .int (iZ 0), .ref ob]
      refine z_i2lw mx mb dL_append_7 ?_
      refine z_last mx mb hK 94 3 rfl rfl dL_append_8 (wBq y o a S tb (zu x ln v) (ln + 1) sm (sav a) p6 ++ wO1 y ob (vp_updL g 0 (lZ (wz (ln + 1))))) rfl ?_
      refine z_goto (tgt := 18) mx mb dL_append_9 (by decide) ?_
      refine z_iconst mx mb dL_append_18 ?_
      rw [hQ]
      refine z_widen (k1 := 1) (n1 := 6) (by decide) (by decide) ?_
      exact z_retI mx mb mr mlk hK (a, S, vp_updL g 0 (lZ (wz (ln + 1)))) ⟨by rw [e0], fun _ => rfl, by rw [e0]; exact tie2⟩ (by rw [e0]; rfl) dL_append_19
    · refine z_callXc (wa := []) (wc := wBq y o a S tb x ln sm (sav a) p6) (wb := wO1 y ob g) (As := [.int (iZ v)]) (rest := [.int (iZ 0), .ref ob]) ⟨mx, mb, mml, mo, mts⟩ hK hA hE (fun sz => c_X4_append_t1 l hl0 D sz y o a S tb x ln sm f v hR hI kp h9v h1) (cwV 1 mts gL_append_X4_append rfl rfl rfl (by decide +kernel) ⟨Nat.le_of_ble_eq_true rfl, Nat.le_of_ble_eq_true rfl⟩) rfl 0 rfl rfl rfl rfl rfl (Nat.le_of_ble_eq_true rfl) ⟨Nat.le_of_ble_eq_true rfl, Nat.le_of_ble_eq_true rfl⟩ dL_append_4 [] (tE (0, 9, 12, 28)) [tE (0, 9, 15, 15)] (by rw [hXt]; rfl) (fun z hz => nomatch hz) (by decide) (by decide) (mts _ (List.mem_of_getElem? (i := 1) rfl)) (eW_use (List.mem_of_getElem? (i := 5) rfl) (hE.2.2.2.1 _ (List.mem_of_getElem? (i := 5) rfl))) (tgt := 12) rfl (fun q9 => ?_)
      show Gz pp l ee ({ frames := 7, cells := 1, slots := 6, locals := 111 } : Room) ss mm args below meth cd 4 1 6 Q (Zw D vwCl (va_A wst sz) ss (wBq y o a S tb x ln sm (sav a) p6 ++ wO1 y ob g)) 12 [(0, .ref (o 0)), (1, .int (iZ v)), (2, .ref ob)] [.ref q9]
      refine z_astore_n mx mb dL_append_12 rfl (by decide) [(3, .ref q9), (0, .ref (o 0)), (1, .int (iZ v)), (2, .ref ob)] rfl ?_
      refine z_iconst mx mb dL_append_13 ?_
      rw [hQ]
      exact z_retI mx mb mr mlk hK (a, S, g) ⟨by rw [e0], fun h => absurd (e0.symm.trans h) (by decide), by rw [e0]; exact hT⟩ (by rw [e0]; rfl) dL_append_14
    · refine z_callXc (wa := []) (wc := wBq y o a S tb x ln sm (sav a) p6) (wb := wO1 y ob g) (As := [.int (iZ v)]) (rest := [.int (iZ 0), .ref ob]) ⟨mx, mb, mml, mo, mts⟩ hK hA hE (fun sz => c_X4_append_t2 l hl0 D sz y o a S tb x ln sm f v hR hI kp h1 h2) (cwV 1 mts gL_append_X4_append rfl rfl rfl (by decide +kernel) ⟨Nat.le_of_ble_eq_true rfl, Nat.le_of_ble_eq_true rfl⟩) rfl 0 rfl rfl rfl rfl rfl (Nat.le_of_ble_eq_true rfl) ⟨Nat.le_of_ble_eq_true rfl, Nat.le_of_ble_eq_true rfl⟩ dL_append_4 [tE (0, 9, 12, 28)] (tE (0, 9, 15, 15)) [] (by rw [hXt]; rfl) (fun z hz => by obtain rfl := List.mem_singleton.mp hz; exact Or.inr ⟨by decide, _, (mts _ (List.mem_of_getElem? (i := 1) rfl)), hE.2.2.1.2.2.2.2⟩) (by decide) (by decide) (mts _ (List.mem_of_getElem? (i := 2) rfl)) (eW_use (List.mem_of_getElem? (i := 4) rfl) (hE.2.2.2.1 _ (List.mem_of_getElem? (i := 4) rfl))) (tgt := 15) rfl (fun q9 => ?_)
      show Gz pp l ee ({ frames := 7, cells := 1, slots := 6, locals := 111 } : Room) ss mm args below meth cd 4 1 6 Q (Zw D vwCl (va_A wst sz) ss (wBq y o a S tb x ln sm (sav a) p6 ++ wO1 y ob g)) 15 [(0, .ref (o 0)), (1, .int (iZ v)), (2, .ref ob)] [.ref q9]
      refine z_astore_n mx mb dL_append_15 rfl (by decide) [(3, .ref q9), (0, .ref (o 0)), (1, .int (iZ v)), (2, .ref ob)] rfl ?_
      refine z_iconst mx mb dL_append_16 ?_
      rw [hQ]
      exact z_retI mx mb mr mlk hK (a, S, g) ⟨by rw [e0], fun h => absurd (e0.symm.trans h) (by decide), by rw [e0]; exact hT⟩ (by rw [e0]; rfl) dL_append_17
  subst hQ
  subst hw0
  exact hstart

set_option maxRecDepth 100000 in
set_option maxHeartbeats 4000000 in
theorem c_L_undo (l : Launch) (hl0 : l.stackTraces = false) (D : va_G) (sz : Nat) (y : Nat → ClassId) (o : Nat → Nat) (a : Nat → Nat → Nat) (S : Nat → Nat → Int → Int) (tb : Nat → Nat) (x : Int → Int) (ln sm : Int) (f sv : Int → Int) (ob : Nat) (g : Nat → Int64)  (hT : Tie f sv x sm ln S) : Met l yL_undo wsL_undo ({ frames := 7, cells := 1, slots := 6, locals := 111 } : Room) (zPe D vwCl (zT y) (wBq y o a S tb x ln sm (sav a) p6 ++ wO1 y ob g) sz [.ref (o 0), .ref ob]) (va_Qi (fun (r : Int32) (u : (Nat → Nat → Nat) × (Nat → Nat → Int → Int) × (Nat → Int64)) => r = iZ (if sm = 0 then (1 : Int) else 0) ∧ ((if sm = 0 then (1 : Int) else 0) = 0 → u.2.2 0 = lZ (wz (sm - 1))) ∧ Tie (if sm = 0 then f else cpO f sv (171 * (sm - 1)) 171) sv x (if sm = 0 then 0 else sm - 1) ln u.2.1) (zB D vwCl (zT y) (wBq y o a S tb x ln sm (sav a) p6 ++ wO1 y ob g) sz (fun u : (Nat → Nat → Nat) × (Nat → Nat → Int → Int) × (Nat → Int64) => wBq y o u.1 u.2.1 tb x ln (if sm = 0 then 0 else sm - 1) (sav u.1) p6 ++ wO1 y ob u.2.2)) (va_A (wBq y o a S tb x ln sm (sav a) p6 ++ wO1 y ob g) sz)) 1 6 (va_A (wBq y o a S tb x ln sm (sav a) p6 ++ wO1 y ob g) sz) := by
  obtain ⟨⟨hR, hI, kp⟩, hsc, hTS, hl, htx⟩ := id hT
  refine z_headH (cc := cL_undo) (maxL := 3) (ret := some .int) (hh := [(0, 8, 11, 15)]) [(0, .ref (o 0)), (1, .ref ob)] rfl (Nat.le_of_ble_eq_true rfl) (by decide +kernel) rfl ?_
  intro pp ee ss mm below meth cd mx mb mr mml mo mts mlk hK hsz hA hE hXt
  generalize ([.ref (o 0), .ref ob] : List Value).toArray = args at mts ⊢
  obtain ⟨wst, hw0⟩ : ∃ wst, wst = (wBq y o a S tb x ln sm (sav a) p6 ++ wO1 y ob g) := ⟨_, rfl⟩
  replace hE : zE (va_A wst sz) ss ss.heap := by rw [hw0]; exact hE
  replace hA : ∀ q, ss.heap.size ≤ q → va_A wst sz q := by rw [hw0]; exact hA
  obtain ⟨Q, hQ⟩ : ∃ Q, Q = MQ below (va_Qi (fun (r : Int32) (u : (Nat → Nat → Nat) × (Nat → Nat → Int → Int) × (Nat → Int64)) => r = iZ (if sm = 0 then (1 : Int) else 0) ∧ ((if sm = 0 then (1 : Int) else 0) = 0 → u.2.2 0 = lZ (wz (sm - 1))) ∧ Tie (if sm = 0 then f else cpO f sv (171 * (sm - 1)) 171) sv x (if sm = 0 then 0 else sm - 1) ln u.2.1) (zB D vwCl (zT y) wst sz (fun u : (Nat → Nat → Nat) × (Nat → Nat → Int → Int) × (Nat → Int64) => wBq y o u.1 u.2.1 tb x ln (if sm = 0 then 0 else sm - 1) (sav u.1) p6 ++ wO1 y ob u.2.2)) (va_A wst sz)) args ss 1 6 (va_A wst sz) := ⟨_, rfl⟩
  have hstart : Gz pp l ee ({ frames := 7, cells := 1, slots := 6, locals := 111 } : Room) ss mm args below meth cd 3 0 0 Q (Zw D vwCl (va_A wst sz) ss (wBq y o a S tb x ln sm (sav a) p6 ++ wO1 y ob g)) 0 [(0, .ref (o 0)), (1, .ref ob)] [] := by
    refine z_aload_n mx mb dL_undo_0 rfl 1 rfl ?_
    refine z_iconst mx mb dL_undo_1 ?_
    refine z_aload_n mx mb dL_undo_2 rfl 0 rfl ?_
    rcases thUndo_c sm with ⟨e0, e1⟩ | ⟨e0, e1⟩
    · refine z_callI (wa := []) (wc := wBq y o a S tb x ln sm (sav a) p6) (wb := wO1 y ob g) (As := []) (rest := [.int (iZ 0), .ref ob]) ⟨mx, mb, mml, mo, mts⟩ hK hA (fun sz => c_X4_undo l D sz y o a S tb x ln sm f (slot sv (sm - 1).toNat) (by omega) (hTS (sm - 1).toNat (by omega)).1 (Inv_Jy (hTS (sm - 1).toNat (by omega)).2.1).f.1) (cwV 0 mts gL_undo_X4_undo rfl rfl rfl (by decide +kernel) ⟨Nat.le_of_ble_eq_true rfl, Nat.le_of_ble_eq_true rfl⟩) rfl 0 rfl rfl rfl rfl rfl (Nat.le_of_ble_eq_true rfl) ⟨Nat.le_of_ble_eq_true rfl, Nat.le_of_ble_eq_true rfl⟩ dL_undo_3 (fun r u hu => ?_)
      obtain ⟨hr, v0, v1⟩ := hu
      have tie2 := tie_undo hT (by omega) v0 v1
      obtain rfl : r = iZ (sm - 1) := hr
      show Gz pp l ee ({ frames := 7, cells := 1, slots := 6, locals := 111 } : Room) ss mm args below meth cd 3 0 0 Q (Zw D vwCl (va_A wst sz) ss (wBq y o a u tb x ln (sm - 1) (sav a) p6 ++ wO1 y ob g)) 6 [(0, .ref (o 0)), (1, .ref ob)] [.int (iZ (sm - 1)), .int (iZ 0), .ref ob]
      refine z_i2lw mx mb dL_undo_6 ?_
      refine z_last mx mb hK 94 3 rfl rfl dL_undo_7 (wBq y o a u tb x ln (sm - 1) (sav a) p6 ++ wO1 y ob (vp_updL g 0 (lZ (wz (sm - 1))))) rfl ?_
      refine z_goto (tgt := 14) mx mb dL_undo_8 (by decide) ?_
      refine z_iconst mx mb dL_undo_14 ?_
      rw [hQ]
      refine z_widen (k1 := 1) (n1 := 6) (by decide) (by decide) ?_
      exact z_retI mx mb mr mlk hK (a, u, vp_updL g 0 (lZ (wz (sm - 1)))) ⟨by rw [e0], fun _ => rfl, by rw [if_neg e1, if_neg e1]; exact tie2⟩ (by rw [if_neg e1]) dL_undo_15
    · refine z_callXc (wa := []) (wc := wBq y o a S tb x ln sm (sav a) p6) (wb := wO1 y ob g) (As := []) (rest := [.int (iZ 0), .ref ob]) ⟨mx, mb, mml, mo, mts⟩ hK hA hE (fun sz => c_X4_undo_t l hl0 D sz y o a S tb x ln sm f  hR hI kp e1) (cwV 0 mts gL_undo_X4_undo rfl rfl rfl (by decide +kernel) ⟨Nat.le_of_ble_eq_true rfl, Nat.le_of_ble_eq_true rfl⟩) rfl 0 rfl rfl rfl rfl rfl (Nat.le_of_ble_eq_true rfl) ⟨Nat.le_of_ble_eq_true rfl, Nat.le_of_ble_eq_true rfl⟩ dL_undo_3 [] (tE (0, 8, 11, 15)) [] (by rw [hXt]; rfl) (fun z hz => nomatch hz) (by decide) (by decide) (mts _ (List.mem_of_getElem? (i := 1) rfl)) (eW_use (List.mem_of_getElem? (i := 4) rfl) (hE.2.2.2.1 _ (List.mem_of_getElem? (i := 4) rfl))) (tgt := 11) rfl (fun q9 => ?_)
      show Gz pp l ee ({ frames := 7, cells := 1, slots := 6, locals := 111 } : Room) ss mm args below meth cd 3 1 6 Q (Zw D vwCl (va_A wst sz) ss (wBq y o a S tb x ln sm (sav a) p6 ++ wO1 y ob g)) 11 [(0, .ref (o 0)), (1, .ref ob)] [.ref q9]
      refine z_astore_n mx mb dL_undo_11 rfl (by decide) [(2, .ref q9), (0, .ref (o 0)), (1, .ref ob)] rfl ?_
      refine z_iconst mx mb dL_undo_12 ?_
      rw [hQ]
      exact z_retI mx mb mr mlk hK (a, S, g) ⟨by rw [e0], fun h => absurd (e0.symm.trans h) (by decide), by rw [if_pos e1, if_pos e1]; rw [e1] at hT; exact hT⟩ (by subst e1; rfl) dL_undo_13
  subst hQ
  subst hw0
  exact hstart
