set_option maxRecDepth 100000 in
set_option maxHeartbeats 4000000 in
theorem c_L_adding (l : Launch) (hl0 : l.stackTraces = false) (D : va_G) (sz : Nat) (y : Nat → ClassId) (o : Nat → Nat) (a : Nat → Nat → Nat) (S : Nat → Nat → Int → Int) (tb : Nat → Nat) (st : CSt) (b : Int) (h9b : -2147483648 ≤ b ∧ b ≤ 2147483647) (hT : Tie st S) : Met l yL_adding wsL_adding ({ frames := 8, cells := 1, slots := 6, locals := 134 } : Room) (zPe D vwCl (zT y) (wC y o a S tb st) sz [.ref (o 0), .int (iZ b)]) (va_Qi (fun (r : Int32) (u : (Nat → Nat → Nat) × (Nat → Nat → Int → Int)) => r = iZ (addV st b) ∧ Tie (addS st b) u.2) (zB D vwCl (zT y) (wC y o a S tb st) sz (fun u : (Nat → Nat → Nat) × (Nat → Nat → Int → Int) => wC y o u.1 u.2 tb (addS st b))) (va_A (wC y o a S tb st) sz)) 1 6 (va_A (wC y o a S tb st) sz) := by
  obtain ⟨⟨hR, hI, kp, lp⟩, hsc, hTS, hl, htx⟩ := id hT
  refine z_headH (cc := cL_adding) (maxL := 3) (ret := some .int) (hh := [(0, 5, 6, 15), (0, 5, 11, 17)]) [(0, .ref (o 0)), (1, .int (iZ b))] rfl (Nat.le_of_ble_eq_true rfl) (by decide +kernel) rfl ?_
  intro pp ee ss mm below meth cd mx mb mr mml mo mts mlk hK hsz hA hE hXt
  generalize ([.ref (o 0), .int (iZ b)] : List Value).toArray = args at mts ⊢
  obtain ⟨wst, hw0⟩ : ∃ wst, wst = (wC y o a S tb st) := ⟨_, rfl⟩
  replace hE : zE (va_A wst sz) ss ss.heap := by rw [hw0]; exact hE
  replace hA : ∀ q, ss.heap.size ≤ q → va_A wst sz q := by rw [hw0]; exact hA
  obtain ⟨Q, hQ⟩ : ∃ Q, Q = MQ below (va_Qi (fun (r : Int32) (u : (Nat → Nat → Nat) × (Nat → Nat → Int → Int)) => r = iZ (addV st b) ∧ Tie (addS st b) u.2) (zB D vwCl (zT y) wst sz (fun u : (Nat → Nat → Nat) × (Nat → Nat → Int → Int) => wC y o u.1 u.2 tb (addS st b))) (va_A wst sz)) args ss 1 6 (va_A wst sz) := ⟨_, rfl⟩
  have hstart : Gz pp l ee ({ frames := 8, cells := 1, slots := 6, locals := 134 } : Room) ss mm args below meth cd 3 0 0 Q (Zw D vwCl (va_A wst sz) ss (wC y o a S tb st)) 0 [(0, .ref (o 0)), (1, .int (iZ b))] [] := by
    refine z_aload_n mx mb dL_adding_0 rfl 0 rfl ?_
    refine z_iload_n mx mb dL_adding_1 rfl 1 rfl ?_
    rcases thAdd_c st.1 b with ⟨e0, h1, h2, h3⟩ | ⟨e0, h1⟩ | ⟨e0, h1, h2⟩
    · refine z_callI (wa := []) (wc := (wC y o a S tb st)) (wb := []) (As := [.int (iZ b)]) (rest := []) ⟨mx, mb, mml, mo, mts⟩ hK hA (fun sz => c_X4_addTrain l D sz y o a S tb st.2.2.2.1 st.2.2.2.2 st.2.2.1 st.1 b hR hI kp hsc h1 (by have := (Inv_Jy hI).f.1.2.2.1; omega) h3) (cwV 1 mts gL_adding_X4_addTrain rfl rfl rfl (by decide +kernel) ⟨Nat.le_of_ble_eq_true rfl, Nat.le_of_ble_eq_true rfl⟩) (List.append_nil _).symm 0 wB_0 rfl rfl rfl rfl (Nat.le_of_ble_eq_true rfl) ⟨Nat.le_of_ble_eq_true rfl, Nat.le_of_ble_eq_true rfl⟩ dL_adding_2 (fun r u hu => ?_)
      rw [List.nil_append, List.append_nil]
      obtain ⟨a2, S2⟩ := u
      obtain ⟨hr, v0, v1, v2, v3, v4⟩ := hu
      replace v2 : Rel (addT st.1 b) (S2 0) := v2
      have tie2 : Tie (savd st (addT st.1 b)) S2 := tie_save hT v2 (ok_add ⟨hI, kp, lp⟩ h1 (by have := (Inv_Jy hI).f.1.2.2.1; omega) h3) v3 v4
      obtain rfl : r = iZ (st.1 2) := hr
      show Gz pp l ee ({ frames := 8, cells := 1, slots := 6, locals := 134 } : Room) ss mm args below meth cd 3 0 0 Q (Zw D vwCl (va_A wst sz) ss (wC y o a2 S2 tb (savd st (addT st.1 b)))) 5 [(0, .ref (o 0)), (1, .int (iZ b))] [.int (iZ (st.1 2))]
      rw [hQ]
      refine z_widen (k1 := 1) (n1 := 6) (by decide) (by decide) ?_
      exact z_retI mx mb mr mlk hK (a2, S2) ⟨by rw [(show addV st b = st.1 2 from v3_0 e0)], by rw [show (addS st b) = (savd st (addT st.1 b)) from s3_0 e0]; exact tie2⟩ (by rw [show (addS st b) = (savd st (addT st.1 b)) from s3_0 e0]) dL_adding_5
    · refine z_callXc (wa := []) (wc := (wC y o a S tb st)) (wb := []) (As := [.int (iZ b)]) (rest := []) ⟨mx, mb, mml, mo, mts⟩ hK hA hE (fun sz => c_X4_addTrain_t1 l hl0 D sz y o a S tb st.2.2.2.1 st.2.2.2.2 st.2.2.1 st.1 b hR hI kp h9b h1) (cwV 1 mts gL_adding_X4_addTrain rfl rfl rfl (by decide +kernel) ⟨Nat.le_of_ble_eq_true rfl, Nat.le_of_ble_eq_true rfl⟩) (List.append_nil _).symm 0 wB_0 rfl rfl rfl rfl (Nat.le_of_ble_eq_true rfl) ⟨Nat.le_of_ble_eq_true rfl, Nat.le_of_ble_eq_true rfl⟩ dL_adding_2 [] (tE (0, 5, 6, 15)) [tE (0, 5, 11, 17)] (by rw [hXt]; rfl) (fun z hz => nomatch hz) (by decide) (by decide) (mts _ (List.mem_of_getElem? (i := 1) rfl)) (eW_use (List.mem_of_getElem? (i := 3) rfl) (hE.2.2.2.1 _ (List.mem_of_getElem? (i := 3) rfl))) (tgt := 6) rfl (fun q9 => ?_)
      show Gz pp l ee ({ frames := 8, cells := 1, slots := 6, locals := 134 } : Room) ss mm args below meth cd 3 1 6 Q (Zw D vwCl (va_A wst sz) ss (wC y o a S tb st)) 6 [(0, .ref (o 0)), (1, .int (iZ b))] [.ref q9]
      refine z_astore_n mx mb dL_adding_6 rfl (by decide) [(2, .ref q9), (0, .ref (o 0)), (1, .int (iZ b))] rfl ?_
      refine z_sipush mx mb dL_adding_7 (by decide +kernel) ?_
      rw [hQ]
      exact z_retI mx mb mr mlk hK (a, S) ⟨by rw [(show addV st b = -3001 from v3_1 e0)], by rw [show (addS st b) = st from s3_n (by omega)]; exact hT⟩ (by rw [show (addS st b) = st from s3_n (by omega)]) dL_adding_10
    · refine z_callXc (wa := []) (wc := (wC y o a S tb st)) (wb := []) (As := [.int (iZ b)]) (rest := []) ⟨mx, mb, mml, mo, mts⟩ hK hA hE (fun sz => c_X4_addTrain_t2 l hl0 D sz y o a S tb st.2.2.2.1 st.2.2.2.2 st.2.2.1 st.1 b hR hI kp h1 h2) (cwV 1 mts gL_adding_X4_addTrain rfl rfl rfl (by decide +kernel) ⟨Nat.le_of_ble_eq_true rfl, Nat.le_of_ble_eq_true rfl⟩) (List.append_nil _).symm 0 wB_0 rfl rfl rfl rfl (Nat.le_of_ble_eq_true rfl) ⟨Nat.le_of_ble_eq_true rfl, Nat.le_of_ble_eq_true rfl⟩ dL_adding_2 [tE (0, 5, 6, 15)] (tE (0, 5, 11, 17)) [] (by rw [hXt]; rfl) (fun z hz => by obtain rfl := List.mem_singleton.mp hz; exact Or.inr ⟨by decide, _, (mts _ (List.mem_of_getElem? (i := 1) rfl)), hE.2.2.1.2.2.1⟩) (by decide) (by decide) (mts _ (List.mem_of_getElem? (i := 2) rfl)) (eW_use (List.mem_of_getElem? (i := 4) rfl) (hE.2.2.2.1 _ (List.mem_of_getElem? (i := 4) rfl))) (tgt := 11) rfl (fun q9 => ?_)
      show Gz pp l ee ({ frames := 8, cells := 1, slots := 6, locals := 134 } : Room) ss mm args below meth cd 3 1 6 Q (Zw D vwCl (va_A wst sz) ss (wC y o a S tb st)) 11 [(0, .ref (o 0)), (1, .int (iZ b))] [.ref q9]
      refine z_astore_n mx mb dL_adding_11 rfl (by decide) [(2, .ref q9), (0, .ref (o 0)), (1, .int (iZ b))] rfl ?_
      refine z_sipush mx mb dL_adding_12 (by decide +kernel) ?_
      rw [hQ]
      exact z_retI mx mb mr mlk hK (a, S) ⟨by rw [(show addV st b = -3003 from v3_2 e0)], by rw [show (addS st b) = st from s3_n (by omega)]; exact hT⟩ (by rw [show (addS st b) = st from s3_n (by omega)]) dL_adding_15
  subst hQ
  subst hw0
  exact hstart

set_option maxRecDepth 100000 in
set_option maxHeartbeats 4000000 in
theorem c_L_taking (l : Launch) (hl0 : l.stackTraces = false) (D : va_G) (sz : Nat) (y : Nat → ClassId) (o : Nat → Nat) (a : Nat → Nat → Nat) (S : Nat → Nat → Int → Int) (tb : Nat → Nat) (st : CSt)  (hT : Tie st S) : Met l yL_taking wsL_taking ({ frames := 7, cells := 1, slots := 6, locals := 133 } : Room) (zPe D vwCl (zT y) (wC y o a S tb st) sz [.ref (o 0)]) (va_Qi (fun (r : Int32) (u : (Nat → Nat → Nat) × (Nat → Nat → Int → Int)) => r = iZ (takV st) ∧ Tie (takS st) u.2) (zB D vwCl (zT y) (wC y o a S tb st) sz (fun u : (Nat → Nat → Nat) × (Nat → Nat → Int → Int) => wC y o u.1 u.2 tb (takS st))) (va_A (wC y o a S tb st) sz)) 1 6 (va_A (wC y o a S tb st) sz) := by
  obtain ⟨⟨hR, hI, kp, lp⟩, hsc, hTS, hl, htx⟩ := id hT
  refine z_headH (cc := cL_taking) (maxL := 2) (ret := some .int) (hh := [(0, 4, 5, 17)]) [(0, .ref (o 0))] rfl (Nat.le_of_ble_eq_true rfl) (by decide +kernel) rfl ?_
  intro pp ee ss mm below meth cd mx mb mr mml mo mts mlk hK hsz hA hE hXt
  generalize ([.ref (o 0)] : List Value).toArray = args at mts ⊢
  obtain ⟨wst, hw0⟩ : ∃ wst, wst = (wC y o a S tb st) := ⟨_, rfl⟩
  replace hE : zE (va_A wst sz) ss ss.heap := by rw [hw0]; exact hE
  replace hA : ∀ q, ss.heap.size ≤ q → va_A wst sz q := by rw [hw0]; exact hA
  obtain ⟨Q, hQ⟩ : ∃ Q, Q = MQ below (va_Qi (fun (r : Int32) (u : (Nat → Nat → Nat) × (Nat → Nat → Int → Int)) => r = iZ (takV st) ∧ Tie (takS st) u.2) (zB D vwCl (zT y) wst sz (fun u : (Nat → Nat → Nat) × (Nat → Nat → Int → Int) => wC y o u.1 u.2 tb (takS st))) (va_A wst sz)) args ss 1 6 (va_A wst sz) := ⟨_, rfl⟩
  have hstart : Gz pp l ee ({ frames := 7, cells := 1, slots := 6, locals := 133 } : Room) ss mm args below meth cd 2 0 0 Q (Zw D vwCl (va_A wst sz) ss (wC y o a S tb st)) 0 [(0, .ref (o 0))] [] := by
    refine z_aload_n mx mb dL_taking_0 rfl 0 rfl ?_
    rcases thTake_c st.1 with ⟨e0, h1⟩ | ⟨e0, h1⟩
    · refine z_callI (wa := []) (wc := (wC y o a S tb st)) (wb := []) (As := []) (rest := []) ⟨mx, mb, mml, mo, mts⟩ hK hA (fun sz => c_X4_takeTrain l D sz y o a S tb st.2.2.2.1 st.2.2.2.2 st.2.2.1 st.1  hR hI kp hsc h1) (cwV 0 mts gL_taking_X4_takeTrain rfl rfl rfl (by decide +kernel) ⟨Nat.le_of_ble_eq_true rfl, Nat.le_of_ble_eq_true rfl⟩) (List.append_nil _).symm 0 wB_0 rfl rfl rfl rfl (Nat.le_of_ble_eq_true rfl) ⟨Nat.le_of_ble_eq_true rfl, Nat.le_of_ble_eq_true rfl⟩ dL_taking_1 (fun r u hu => ?_)
      rw [List.nil_append, List.append_nil]
      obtain ⟨a2, S2⟩ := u
      obtain ⟨hr, v0, v1, v2, v3, v4⟩ := hu
      replace v2 : Rel (zu st.1 2 (st.1 2 - 1)) (S2 0) := v2
      have tie2 : Tie (savd st (zu st.1 2 (st.1 2 - 1))) S2 := tie_save hT v2 (ok_take ⟨hI, kp, lp⟩ h1) v3 v4
      obtain rfl : r = iZ (st.1 2 - 1) := hr
      show Gz pp l ee ({ frames := 7, cells := 1, slots := 6, locals := 133 } : Room) ss mm args below meth cd 2 0 0 Q (Zw D vwCl (va_A wst sz) ss (wC y o a2 S2 tb (savd st (zu st.1 2 (st.1 2 - 1))))) 4 [(0, .ref (o 0))] [.int (iZ (st.1 2 - 1))]
      rw [hQ]
      refine z_widen (k1 := 1) (n1 := 6) (by decide) (by decide) ?_
      exact z_retI mx mb mr mlk hK (a2, S2) ⟨by rw [(show takV st = st.1 2 - 1 from v3_0 e0)], by rw [show (takS st) = (savd st (zu st.1 2 (st.1 2 - 1))) from s3_0 e0]; exact tie2⟩ (by rw [show (takS st) = (savd st (zu st.1 2 (st.1 2 - 1))) from s3_0 e0]) dL_taking_4
    · refine z_callXc (wa := []) (wc := (wC y o a S tb st)) (wb := []) (As := []) (rest := []) ⟨mx, mb, mml, mo, mts⟩ hK hA hE (fun sz => c_X4_takeTrain_t l hl0 D sz y o a S tb st.2.2.2.1 st.2.2.2.2 st.2.2.1 st.1  hR hI kp h1) (cwV 0 mts gL_taking_X4_takeTrain rfl rfl rfl (by decide +kernel) ⟨Nat.le_of_ble_eq_true rfl, Nat.le_of_ble_eq_true rfl⟩) (List.append_nil _).symm 0 wB_0 rfl rfl rfl rfl (Nat.le_of_ble_eq_true rfl) ⟨Nat.le_of_ble_eq_true rfl, Nat.le_of_ble_eq_true rfl⟩ dL_taking_1 [] (tE (0, 4, 5, 17)) [] (by rw [hXt]; rfl) (fun z hz => nomatch hz) (by decide) (by decide) (mts _ (List.mem_of_getElem? (i := 1) rfl)) (eW_use (List.mem_of_getElem? (i := 4) rfl) (hE.2.2.2.1 _ (List.mem_of_getElem? (i := 4) rfl))) (tgt := 5) rfl (fun q9 => ?_)
      show Gz pp l ee ({ frames := 7, cells := 1, slots := 6, locals := 133 } : Room) ss mm args below meth cd 2 1 6 Q (Zw D vwCl (va_A wst sz) ss (wC y o a S tb st)) 5 [(0, .ref (o 0))] [.ref q9]
      refine z_astore_n mx mb dL_taking_5 rfl (by decide) [(1, .ref q9), (0, .ref (o 0))] rfl ?_
      refine z_sipush mx mb dL_taking_6 (by decide +kernel) ?_
      rw [hQ]
      exact z_retI mx mb mr mlk hK (a, S) ⟨by rw [(show takV st = -3003 from v3_1 e0)], by rw [show (takS st) = st from s3_n (by omega)]; exact hT⟩ (by rw [show (takS st) = st from s3_n (by omega)]) dL_taking_9
  subst hQ
  subst hw0
  exact hstart

set_option maxRecDepth 100000 in
set_option maxHeartbeats 4000000 in
theorem c_L_rescuing (l : Launch) (hl0 : l.stackTraces = false) (D : va_G) (sz : Nat) (y : Nat → ClassId) (o : Nat → Nat) (a : Nat → Nat → Nat) (S : Nat → Nat → Int → Int) (tb : Nat → Nat) (st : CSt) (t : Int) (h9t : -2147483648 ≤ t ∧ t ≤ 2147483647) (hT : Tie st S) : Met l yL_rescuing wsL_rescuing ({ frames := 8, cells := 1, slots := 6, locals := 136 } : Room) (zPe D vwCl (zT y) (wC y o a S tb st) sz [.ref (o 0), .int (iZ t)]) (va_Qi (fun (r : Int32) (u : (Nat → Nat → Nat) × (Nat → Nat → Int → Int)) => r = iZ (resV st t) ∧ Tie (resS st t) u.2) (zB D vwCl (zT y) (wC y o a S tb st) sz (fun u : (Nat → Nat → Nat) × (Nat → Nat → Int → Int) => wC y o u.1 u.2 tb (resS st t))) (va_A (wC y o a S tb st) sz)) 1 6 (va_A (wC y o a S tb st) sz) := by
  obtain ⟨⟨hR, hI, kp, lp⟩, hsc, hTS, hl, htx⟩ := id hT
  refine z_headH (cc := cL_rescuing) (maxL := 3) (ret := some .int) (hh := [(0, 5, 6, 15), (0, 5, 11, 17)]) [(0, .ref (o 0)), (1, .int (iZ t))] rfl (Nat.le_of_ble_eq_true rfl) (by decide +kernel) rfl ?_
  intro pp ee ss mm below meth cd mx mb mr mml mo mts mlk hK hsz hA hE hXt
  generalize ([.ref (o 0), .int (iZ t)] : List Value).toArray = args at mts ⊢
  obtain ⟨wst, hw0⟩ : ∃ wst, wst = (wC y o a S tb st) := ⟨_, rfl⟩
  replace hE : zE (va_A wst sz) ss ss.heap := by rw [hw0]; exact hE
  replace hA : ∀ q, ss.heap.size ≤ q → va_A wst sz q := by rw [hw0]; exact hA
  obtain ⟨Q, hQ⟩ : ∃ Q, Q = MQ below (va_Qi (fun (r : Int32) (u : (Nat → Nat → Nat) × (Nat → Nat → Int → Int)) => r = iZ (resV st t) ∧ Tie (resS st t) u.2) (zB D vwCl (zT y) wst sz (fun u : (Nat → Nat → Nat) × (Nat → Nat → Int → Int) => wC y o u.1 u.2 tb (resS st t))) (va_A wst sz)) args ss 1 6 (va_A wst sz) := ⟨_, rfl⟩
  have hstart : Gz pp l ee ({ frames := 8, cells := 1, slots := 6, locals := 136 } : Room) ss mm args below meth cd 3 0 0 Q (Zw D vwCl (va_A wst sz) ss (wC y o a S tb st)) 0 [(0, .ref (o 0)), (1, .int (iZ t))] [] := by
    refine z_aload_n mx mb dL_rescuing_0 rfl 0 rfl ?_
    refine z_iload_n mx mb dL_rescuing_1 rfl 1 rfl ?_
    rcases thRes_c st.1 t with ⟨e0, h1, h2⟩ | ⟨e0, h1⟩ | ⟨e0, h1, h2⟩
    · refine z_callI (wa := []) (wc := (wC y o a S tb st)) (wb := []) (As := [.int (iZ t)]) (rest := []) ⟨mx, mb, mml, mo, mts⟩ hK hA (fun sz => c_X4_rescue l D sz y o a S tb st.2.2.2.1 st.2.2.2.2 st.2.2.1 st.1 t hR hI kp hsc h1 h2) (cwV 1 mts gL_rescuing_X4_rescue rfl rfl rfl (by decide +kernel) ⟨Nat.le_of_ble_eq_true rfl, Nat.le_of_ble_eq_true rfl⟩) (List.append_nil _).symm 0 wB_0 rfl rfl rfl rfl (Nat.le_of_ble_eq_true rfl) ⟨Nat.le_of_ble_eq_true rfl, Nat.le_of_ble_eq_true rfl⟩ dL_rescuing_2 (fun r u hu => ?_)
      rw [List.nil_append, List.append_nil]
      obtain ⟨a2, S2⟩ := u
      obtain ⟨hr, v0, v1, v2, v3, v4⟩ := hu
      replace v2 : Rel (resT st.1 t) (S2 0) := v2
      have tie2 : Tie (savd st (resT st.1 t)) S2 := tie_save hT v2 (ok_res ⟨hI, kp, lp⟩ h1) v3 v4
      obtain rfl : r = iZ (st.1 (79 + 8 * t + 0)) := hr
      show Gz pp l ee ({ frames := 8, cells := 1, slots := 6, locals := 136 } : Room) ss mm args below meth cd 3 0 0 Q (Zw D vwCl (va_A wst sz) ss (wC y o a2 S2 tb (savd st (resT st.1 t)))) 5 [(0, .ref (o 0)), (1, .int (iZ t))] [.int (iZ (st.1 (79 + 8 * t + 0)))]
      rw [hQ]
      refine z_widen (k1 := 1) (n1 := 6) (by decide) (by decide) ?_
      exact z_retI mx mb mr mlk hK (a2, S2) ⟨by rw [(show resV st t = st.1 (79 + 8 * t + 0) from v3_0 e0)], by rw [show (resS st t) = (savd st (resT st.1 t)) from s3_0 e0]; exact tie2⟩ (by rw [show (resS st t) = (savd st (resT st.1 t)) from s3_0 e0]) dL_rescuing_5
    · refine z_callXc (wa := []) (wc := (wC y o a S tb st)) (wb := []) (As := [.int (iZ t)]) (rest := []) ⟨mx, mb, mml, mo, mts⟩ hK hA hE (fun sz => c_X4_rescue_t1 l hl0 D sz y o a S tb st.2.2.2.1 st.2.2.2.2 st.2.2.1 st.1 t hR hI kp h9t h1) (cwV 1 mts gL_rescuing_X4_rescue rfl rfl rfl (by decide +kernel) ⟨Nat.le_of_ble_eq_true rfl, Nat.le_of_ble_eq_true rfl⟩) (List.append_nil _).symm 0 wB_0 rfl rfl rfl rfl (Nat.le_of_ble_eq_true rfl) ⟨Nat.le_of_ble_eq_true rfl, Nat.le_of_ble_eq_true rfl⟩ dL_rescuing_2 [] (tE (0, 5, 6, 15)) [tE (0, 5, 11, 17)] (by rw [hXt]; rfl) (fun z hz => nomatch hz) (by decide) (by decide) (mts _ (List.mem_of_getElem? (i := 1) rfl)) (eW_use (List.mem_of_getElem? (i := 3) rfl) (hE.2.2.2.1 _ (List.mem_of_getElem? (i := 3) rfl))) (tgt := 6) rfl (fun q9 => ?_)
      show Gz pp l ee ({ frames := 8, cells := 1, slots := 6, locals := 136 } : Room) ss mm args below meth cd 3 1 6 Q (Zw D vwCl (va_A wst sz) ss (wC y o a S tb st)) 6 [(0, .ref (o 0)), (1, .int (iZ t))] [.ref q9]
      refine z_astore_n mx mb dL_rescuing_6 rfl (by decide) [(2, .ref q9), (0, .ref (o 0)), (1, .int (iZ t))] rfl ?_
      refine z_sipush mx mb dL_rescuing_7 (by decide +kernel) ?_
      rw [hQ]
      exact z_retI mx mb mr mlk hK (a, S) ⟨by rw [(show resV st t = -3001 from v3_1 e0)], by rw [show (resS st t) = st from s3_n (by omega)]; exact hT⟩ (by rw [show (resS st t) = st from s3_n (by omega)]) dL_rescuing_10
    · refine z_callXc (wa := []) (wc := (wC y o a S tb st)) (wb := []) (As := [.int (iZ t)]) (rest := []) ⟨mx, mb, mml, mo, mts⟩ hK hA hE (fun sz => c_X4_rescue_t2 l hl0 D sz y o a S tb st.2.2.2.1 st.2.2.2.2 st.2.2.1 st.1 t hR hI kp h1 h2) (cwV 1 mts gL_rescuing_X4_rescue rfl rfl rfl (by decide +kernel) ⟨Nat.le_of_ble_eq_true rfl, Nat.le_of_ble_eq_true rfl⟩) (List.append_nil _).symm 0 wB_0 rfl rfl rfl rfl (Nat.le_of_ble_eq_true rfl) ⟨Nat.le_of_ble_eq_true rfl, Nat.le_of_ble_eq_true rfl⟩ dL_rescuing_2 [tE (0, 5, 6, 15)] (tE (0, 5, 11, 17)) [] (by rw [hXt]; rfl) (fun z hz => by obtain rfl := List.mem_singleton.mp hz; exact Or.inr ⟨by decide, _, (mts _ (List.mem_of_getElem? (i := 1) rfl)), hE.2.2.1.2.2.1⟩) (by decide) (by decide) (mts _ (List.mem_of_getElem? (i := 2) rfl)) (eW_use (List.mem_of_getElem? (i := 4) rfl) (hE.2.2.2.1 _ (List.mem_of_getElem? (i := 4) rfl))) (tgt := 11) rfl (fun q9 => ?_)
      show Gz pp l ee ({ frames := 8, cells := 1, slots := 6, locals := 136 } : Room) ss mm args below meth cd 3 1 6 Q (Zw D vwCl (va_A wst sz) ss (wC y o a S tb st)) 11 [(0, .ref (o 0)), (1, .int (iZ t))] [.ref q9]
      refine z_astore_n mx mb dL_rescuing_11 rfl (by decide) [(2, .ref q9), (0, .ref (o 0)), (1, .int (iZ t))] rfl ?_
      refine z_sipush mx mb dL_rescuing_12 (by decide +kernel) ?_
      rw [hQ]
      exact z_retI mx mb mr mlk hK (a, S) ⟨by rw [(show resV st t = -3003 from v3_2 e0)], by rw [show (resS st t) = st from s3_n (by omega)]; exact hT⟩ (by rw [show (resS st t) = st from s3_n (by omega)]) dL_rescuing_15
  subst hQ
  subst hw0
  exact hstart

set_option maxRecDepth 100000 in
set_option maxHeartbeats 4000000 in
theorem c_L_setting (l : Launch) (hl0 : l.stackTraces = false) (D : va_G) (sz : Nat) (y : Nat → ClassId) (o : Nat → Nat) (a : Nat → Nat → Nat) (S : Nat → Nat → Int → Int) (tb : Nat → Nat) (st : CSt) (w v : Int) (h9w : -2147483648 ≤ w ∧ w ≤ 2147483647) (h9v : -2147483648 ≤ v ∧ v ≤ 2147483647) (hT : Tie st S) : Met l yL_setting wsL_setting ({ frames := 7, cells := 1, slots := 6, locals := 136 } : Room) (zPe D vwCl (zT y) (wC y o a S tb st) sz [.ref (o 0), .int (iZ w), .int (iZ v)]) (va_Qi (fun (r : Int32) (u : (Nat → Nat → Nat) × (Nat → Nat → Int → Int)) => r = iZ (setV st w v) ∧ Tie (setS st w v) u.2) (zB D vwCl (zT y) (wC y o a S tb st) sz (fun u : (Nat → Nat → Nat) × (Nat → Nat → Int → Int) => wC y o u.1 u.2 tb (setS st w v))) (va_A (wC y o a S tb st) sz)) 1 6 (va_A (wC y o a S tb st) sz) := by
  obtain ⟨⟨hR, hI, kp, lp⟩, hsc, hTS, hl, htx⟩ := id hT
  refine z_headH (cc := cL_setting) (maxL := 4) (ret := some .int) (hh := [(0, 6, 7, 15), (0, 6, 12, 30)]) [(0, .ref (o 0)), (1, .int (iZ w)), (2, .int (iZ v))] rfl (Nat.le_of_ble_eq_true rfl) (by decide +kernel) rfl ?_
  intro pp ee ss mm below meth cd mx mb mr mml mo mts mlk hK hsz hA hE hXt
  generalize ([.ref (o 0), .int (iZ w), .int (iZ v)] : List Value).toArray = args at mts ⊢
  obtain ⟨wst, hw0⟩ : ∃ wst, wst = (wC y o a S tb st) := ⟨_, rfl⟩
  replace hE : zE (va_A wst sz) ss ss.heap := by rw [hw0]; exact hE
  replace hA : ∀ q, ss.heap.size ≤ q → va_A wst sz q := by rw [hw0]; exact hA
  obtain ⟨Q, hQ⟩ : ∃ Q, Q = MQ below (va_Qi (fun (r : Int32) (u : (Nat → Nat → Nat) × (Nat → Nat → Int → Int)) => r = iZ (setV st w v) ∧ Tie (setS st w v) u.2) (zB D vwCl (zT y) wst sz (fun u : (Nat → Nat → Nat) × (Nat → Nat → Int → Int) => wC y o u.1 u.2 tb (setS st w v))) (va_A wst sz)) args ss 1 6 (va_A wst sz) := ⟨_, rfl⟩
  have hstart : Gz pp l ee ({ frames := 7, cells := 1, slots := 6, locals := 136 } : Room) ss mm args below meth cd 4 0 0 Q (Zw D vwCl (va_A wst sz) ss (wC y o a S tb st)) 0 [(0, .ref (o 0)), (1, .int (iZ w)), (2, .int (iZ v))] [] := by
    refine z_aload_n mx mb dL_setting_0 rfl 0 rfl ?_
    refine z_iload_n mx mb dL_setting_1 rfl 1 rfl ?_
    refine z_iload_n mx mb dL_setting_2 rfl 2 rfl ?_
    rcases thSet_c w v with e0 | e0 | e0
    · refine z_callIE (wa := []) (wc := (wC y o a S tb st)) (wb := []) (As := [.int (iZ w), .int (iZ v)]) (rest := []) ⟨mx, mb, mml, mo, mts⟩ hK hA hE (fun sz => c_X4_set l D sz y o a S tb st.2.2.2.1 st.2.2.2.2 st.2.2.1 st.1 w v hR hI kp hsc h9v e0) (cwV 2 mts gL_setting_X4_set rfl rfl rfl (by decide +kernel) ⟨Nat.le_of_ble_eq_true rfl, Nat.le_of_ble_eq_true rfl⟩) (List.append_nil _).symm 0 wB_0 rfl rfl rfl rfl (Nat.le_of_ble_eq_true rfl) ⟨Nat.le_of_ble_eq_true rfl, Nat.le_of_ble_eq_true rfl⟩ dL_setting_3 (fun r u hu => ?_)
      rw [List.nil_append, List.append_nil]
      obtain ⟨a2, S2⟩ := u
      obtain ⟨hr, v0, v1, v2, v3, v4⟩ := hu
      replace v2 : Rel (zu st.1 (4 + w) v) (S2 0) := v2
      have tie2 : Tie (savd st (zu st.1 (4 + w) v)) S2 := tie_save hT v2 (ok_set ⟨hI, kp, lp⟩ (thSet_0 e0).1 ((set_can (thSet_0 e0).1).mpr (thSet_0 e0).2)) v3 v4
      obtain rfl : r = iZ (st.1 (4 + w)) := hr
      show Gz pp l ee ({ frames := 7, cells := 1, slots := 6, locals := 136 } : Room) ss mm args below meth cd 4 0 0 Q (Zw D vwCl (va_A wst sz) ss (wC y o a2 S2 tb (savd st (zu st.1 (4 + w) v)))) 6 [(0, .ref (o 0)), (1, .int (iZ w)), (2, .int (iZ v))] [.int (iZ (st.1 (4 + w)))]
      rw [hQ]
      refine z_widen (k1 := 1) (n1 := 6) (by decide) (by decide) ?_
      exact z_retI mx mb mr mlk hK (a2, S2) ⟨by rw [(show setV st w v = st.1 (4 + w) from v3_0 e0)], by rw [show (setS st w v) = (savd st (zu st.1 (4 + w) v)) from s3_0 e0]; exact tie2⟩ (by rw [show (setS st w v) = (savd st (zu st.1 (4 + w) v)) from s3_0 e0]) dL_setting_6
    · refine z_callXc (wa := []) (wc := (wC y o a S tb st)) (wb := []) (As := [.int (iZ w), .int (iZ v)]) (rest := []) ⟨mx, mb, mml, mo, mts⟩ hK hA hE (fun sz => c_X4_set_t1 l hl0 D sz y o a S tb st.2.2.2.1 st.2.2.2.2 st.2.2.1 st.1 w v hR hI kp h9w h9v e0) (cwV 2 mts gL_setting_X4_set rfl rfl rfl (by decide +kernel) ⟨Nat.le_of_ble_eq_true rfl, Nat.le_of_ble_eq_true rfl⟩) (List.append_nil _).symm 0 wB_0 rfl rfl rfl rfl (Nat.le_of_ble_eq_true rfl) ⟨Nat.le_of_ble_eq_true rfl, Nat.le_of_ble_eq_true rfl⟩ dL_setting_3 [] (tE (0, 6, 7, 15)) [tE (0, 6, 12, 30)] (by rw [hXt]; rfl) (fun z hz => nomatch hz) (by decide) (by decide) (mts _ (List.mem_of_getElem? (i := 1) rfl)) (eW_use (List.mem_of_getElem? (i := 3) rfl) (hE.2.2.2.1 _ (List.mem_of_getElem? (i := 3) rfl))) (tgt := 7) rfl (fun q9 => ?_)
      show Gz pp l ee ({ frames := 7, cells := 1, slots := 6, locals := 136 } : Room) ss mm args below meth cd 4 1 6 Q (Zw D vwCl (va_A wst sz) ss (wC y o a S tb st)) 7 [(0, .ref (o 0)), (1, .int (iZ w)), (2, .int (iZ v))] [.ref q9]
      refine z_astore_n mx mb dL_setting_7 rfl (by decide) [(3, .ref q9), (0, .ref (o 0)), (1, .int (iZ w)), (2, .int (iZ v))] rfl ?_
      refine z_sipush mx mb dL_setting_8 (by decide +kernel) ?_
      rw [hQ]
      exact z_retI mx mb mr mlk hK (a, S) ⟨by rw [(show setV st w v = -3001 from v3_1 e0)], by rw [show (setS st w v) = st from s3_n (by omega)]; exact hT⟩ (by rw [show (setS st w v) = st from s3_n (by omega)]) dL_setting_11
    · refine z_callXc (wa := []) (wc := (wC y o a S tb st)) (wb := []) (As := [.int (iZ w), .int (iZ v)]) (rest := []) ⟨mx, mb, mml, mo, mts⟩ hK hA hE (fun sz => c_X4_set_t2 l hl0 D sz y o a S tb st.2.2.2.1 st.2.2.2.2 st.2.2.1 st.1 w v hR hI kp h9w h9v e0) (cwV 2 mts gL_setting_X4_set rfl rfl rfl (by decide +kernel) ⟨Nat.le_of_ble_eq_true rfl, Nat.le_of_ble_eq_true rfl⟩) (List.append_nil _).symm 0 wB_0 rfl rfl rfl rfl (Nat.le_of_ble_eq_true rfl) ⟨Nat.le_of_ble_eq_true rfl, Nat.le_of_ble_eq_true rfl⟩ dL_setting_3 [tE (0, 6, 7, 15)] (tE (0, 6, 12, 30)) [] (by rw [hXt]; rfl) (fun z hz => by obtain rfl := List.mem_singleton.mp hz; exact Or.inr ⟨by decide, _, (mts _ (List.mem_of_getElem? (i := 1) rfl)), hE.2.2.1.2.2.2.1⟩) (by decide) (by decide) (mts _ (List.mem_of_getElem? (i := 2) rfl)) (eW_use (List.mem_of_getElem? (i := 5) rfl) (hE.2.2.2.1 _ (List.mem_of_getElem? (i := 5) rfl))) (tgt := 12) rfl (fun q9 => ?_)
      show Gz pp l ee ({ frames := 7, cells := 1, slots := 6, locals := 136 } : Room) ss mm args below meth cd 4 1 6 Q (Zw D vwCl (va_A wst sz) ss (wC y o a S tb st)) 12 [(0, .ref (o 0)), (1, .int (iZ w)), (2, .int (iZ v))] [.ref q9]
      refine z_astore_n mx mb dL_setting_12 rfl (by decide) [(3, .ref q9), (0, .ref (o 0)), (1, .int (iZ w)), (2, .int (iZ v))] rfl ?_
      refine z_sipush mx mb dL_setting_13 (by decide +kernel) ?_
      rw [hQ]
      exact z_retI mx mb mr mlk hK (a, S) ⟨by rw [(show setV st w v = -3002 from v3_2 e0)], by rw [show (setS st w v) = st from s3_n (by omega)]; exact hT⟩ (by rw [show (setS st w v) = st from s3_n (by omega)]) dL_setting_16
  subst hQ
  subst hw0
  exact hstart

set_option maxRecDepth 100000 in
set_option maxHeartbeats 4000000 in
theorem c_L_heighten (l : Launch) (hl0 : l.stackTraces = false) (D : va_G) (sz : Nat) (y : Nat → ClassId) (o : Nat → Nat) (a : Nat → Nat → Nat) (S : Nat → Nat → Int → Int) (tb : Nat → Nat) (st : CSt) (c z : Int) (h9c : -2147483648 ≤ c ∧ c ≤ 2147483647) (h9z : -2147483648 ≤ z ∧ z ≤ 2147483647) (hT : Tie st S) : Met l yL_heighten wsL_heighten ({ frames := 8, cells := 1, slots := 6, locals := 136 } : Room) (zPe D vwCl (zT y) (wC y o a S tb st) sz [.ref (o 0), .int (iZ c), .int (iZ z)]) (va_Qi (fun (r : Int32) (u : (Nat → Nat → Nat) × (Nat → Nat → Int → Int)) => r = iZ (hgtV st c z) ∧ Tie (hgtS st c z) u.2) (zB D vwCl (zT y) (wC y o a S tb st) sz (fun u : (Nat → Nat → Nat) × (Nat → Nat → Int → Int) => wC y o u.1 u.2 tb (hgtS st c z))) (va_A (wC y o a S tb st) sz)) 1 6 (va_A (wC y o a S tb st) sz) := by
  obtain ⟨⟨hR, hI, kp, lp⟩, hsc, hTS, hl, htx⟩ := id hT
  refine z_headH (cc := cL_heighten) (maxL := 4) (ret := some .int) (hh := [(0, 6, 7, 15), (0, 6, 12, 30)]) [(0, .ref (o 0)), (1, .int (iZ c)), (2, .int (iZ z))] rfl (Nat.le_of_ble_eq_true rfl) (by decide +kernel) rfl ?_
  intro pp ee ss mm below meth cd mx mb mr mml mo mts mlk hK hsz hA hE hXt
  generalize ([.ref (o 0), .int (iZ c), .int (iZ z)] : List Value).toArray = args at mts ⊢
  obtain ⟨wst, hw0⟩ : ∃ wst, wst = (wC y o a S tb st) := ⟨_, rfl⟩
  replace hE : zE (va_A wst sz) ss ss.heap := by rw [hw0]; exact hE
  replace hA : ∀ q, ss.heap.size ≤ q → va_A wst sz q := by rw [hw0]; exact hA
  obtain ⟨Q, hQ⟩ : ∃ Q, Q = MQ below (va_Qi (fun (r : Int32) (u : (Nat → Nat → Nat) × (Nat → Nat → Int → Int)) => r = iZ (hgtV st c z) ∧ Tie (hgtS st c z) u.2) (zB D vwCl (zT y) wst sz (fun u : (Nat → Nat → Nat) × (Nat → Nat → Int → Int) => wC y o u.1 u.2 tb (hgtS st c z))) (va_A wst sz)) args ss 1 6 (va_A wst sz) := ⟨_, rfl⟩
  have hstart : Gz pp l ee ({ frames := 8, cells := 1, slots := 6, locals := 136 } : Room) ss mm args below meth cd 4 0 0 Q (Zw D vwCl (va_A wst sz) ss (wC y o a S tb st)) 0 [(0, .ref (o 0)), (1, .int (iZ c)), (2, .int (iZ z))] [] := by
    refine z_aload_n mx mb dL_heighten_0 rfl 0 rfl ?_
    refine z_iload_n mx mb dL_heighten_1 rfl 1 rfl ?_
    refine z_iload_n mx mb dL_heighten_2 rfl 2 rfl ?_
    rcases thHgt_c st.1 c z with ⟨e0, h1, h2⟩ | ⟨e0, h1⟩ | ⟨e0, h1, h2⟩
    · refine z_callI (wa := []) (wc := (wC y o a S tb st)) (wb := []) (As := [.int (iZ c), .int (iZ z)]) (rest := []) ⟨mx, mb, mml, mo, mts⟩ hK hA (fun sz => c_X4_setHeight l D sz y o a S tb st.2.2.2.1 st.2.2.2.2 st.2.2.1 st.1 c z hR hI kp hsc h1 h2) (cwV 2 mts gL_heighten_X4_setHeight rfl rfl rfl (by decide +kernel) ⟨Nat.le_of_ble_eq_true rfl, Nat.le_of_ble_eq_true rfl⟩) (List.append_nil _).symm 0 wB_0 rfl rfl rfl rfl (Nat.le_of_ble_eq_true rfl) ⟨Nat.le_of_ble_eq_true rfl, Nat.le_of_ble_eq_true rfl⟩ dL_heighten_3 (fun r u hu => ?_)
      rw [List.nil_append, List.append_nil]
      obtain ⟨a2, S2⟩ := u
      obtain ⟨hr, v0, v1, v2, v3, v4⟩ := hu
      replace v2 : Rel (zu st.1 (11 + c) z) (S2 0) := v2
      have tie2 : Tie (savd st (zu st.1 (11 + c) z)) S2 := tie_save hT v2 (ok_hgt ⟨hI, kp, lp⟩ h1 h2) v3 v4
      obtain rfl : r = iZ (st.1 (11 + c)) := hr
      show Gz pp l ee ({ frames := 8, cells := 1, slots := 6, locals := 136 } : Room) ss mm args below meth cd 4 0 0 Q (Zw D vwCl (va_A wst sz) ss (wC y o a2 S2 tb (savd st (zu st.1 (11 + c) z)))) 6 [(0, .ref (o 0)), (1, .int (iZ c)), (2, .int (iZ z))] [.int (iZ (st.1 (11 + c)))]
      rw [hQ]
      refine z_widen (k1 := 1) (n1 := 6) (by decide) (by decide) ?_
      exact z_retI mx mb mr mlk hK (a2, S2) ⟨by rw [(show hgtV st c z = st.1 (11 + c) from v3_0 e0)], by rw [show (hgtS st c z) = (savd st (zu st.1 (11 + c) z)) from s3_0 e0]; exact tie2⟩ (by rw [show (hgtS st c z) = (savd st (zu st.1 (11 + c) z)) from s3_0 e0]) dL_heighten_6
    · refine z_callXc (wa := []) (wc := (wC y o a S tb st)) (wb := []) (As := [.int (iZ c), .int (iZ z)]) (rest := []) ⟨mx, mb, mml, mo, mts⟩ hK hA hE (fun sz => c_X4_setHeight_t1 l hl0 D sz y o a S tb st.2.2.2.1 st.2.2.2.2 st.2.2.1 st.1 c z hR hI kp h9c h9z h1) (cwV 2 mts gL_heighten_X4_setHeight rfl rfl rfl (by decide +kernel) ⟨Nat.le_of_ble_eq_true rfl, Nat.le_of_ble_eq_true rfl⟩) (List.append_nil _).symm 0 wB_0 rfl rfl rfl rfl (Nat.le_of_ble_eq_true rfl) ⟨Nat.le_of_ble_eq_true rfl, Nat.le_of_ble_eq_true rfl⟩ dL_heighten_3 [] (tE (0, 6, 7, 15)) [tE (0, 6, 12, 30)] (by rw [hXt]; rfl) (fun z hz => nomatch hz) (by decide) (by decide) (mts _ (List.mem_of_getElem? (i := 1) rfl)) (eW_use (List.mem_of_getElem? (i := 3) rfl) (hE.2.2.2.1 _ (List.mem_of_getElem? (i := 3) rfl))) (tgt := 7) rfl (fun q9 => ?_)
      show Gz pp l ee ({ frames := 8, cells := 1, slots := 6, locals := 136 } : Room) ss mm args below meth cd 4 1 6 Q (Zw D vwCl (va_A wst sz) ss (wC y o a S tb st)) 7 [(0, .ref (o 0)), (1, .int (iZ c)), (2, .int (iZ z))] [.ref q9]
      refine z_astore_n mx mb dL_heighten_7 rfl (by decide) [(3, .ref q9), (0, .ref (o 0)), (1, .int (iZ c)), (2, .int (iZ z))] rfl ?_
      refine z_sipush mx mb dL_heighten_8 (by decide +kernel) ?_
      rw [hQ]
      exact z_retI mx mb mr mlk hK (a, S) ⟨by rw [(show hgtV st c z = -3001 from v3_1 e0)], by rw [show (hgtS st c z) = st from s3_n (by omega)]; exact hT⟩ (by rw [show (hgtS st c z) = st from s3_n (by omega)]) dL_heighten_11
    · refine z_callXc (wa := []) (wc := (wC y o a S tb st)) (wb := []) (As := [.int (iZ c), .int (iZ z)]) (rest := []) ⟨mx, mb, mml, mo, mts⟩ hK hA hE (fun sz => c_X4_setHeight_t2 l hl0 D sz y o a S tb st.2.2.2.1 st.2.2.2.2 st.2.2.1 st.1 c z hR hI kp h9z h1 h2) (cwV 2 mts gL_heighten_X4_setHeight rfl rfl rfl (by decide +kernel) ⟨Nat.le_of_ble_eq_true rfl, Nat.le_of_ble_eq_true rfl⟩) (List.append_nil _).symm 0 wB_0 rfl rfl rfl rfl (Nat.le_of_ble_eq_true rfl) ⟨Nat.le_of_ble_eq_true rfl, Nat.le_of_ble_eq_true rfl⟩ dL_heighten_3 [tE (0, 6, 7, 15)] (tE (0, 6, 12, 30)) [] (by rw [hXt]; rfl) (fun z hz => by obtain rfl := List.mem_singleton.mp hz; exact Or.inr ⟨by decide, _, (mts _ (List.mem_of_getElem? (i := 1) rfl)), hE.2.2.1.2.2.2.1⟩) (by decide) (by decide) (mts _ (List.mem_of_getElem? (i := 2) rfl)) (eW_use (List.mem_of_getElem? (i := 5) rfl) (hE.2.2.2.1 _ (List.mem_of_getElem? (i := 5) rfl))) (tgt := 12) rfl (fun q9 => ?_)
      show Gz pp l ee ({ frames := 8, cells := 1, slots := 6, locals := 136 } : Room) ss mm args below meth cd 4 1 6 Q (Zw D vwCl (va_A wst sz) ss (wC y o a S tb st)) 12 [(0, .ref (o 0)), (1, .int (iZ c)), (2, .int (iZ z))] [.ref q9]
      refine z_astore_n mx mb dL_heighten_12 rfl (by decide) [(3, .ref q9), (0, .ref (o 0)), (1, .int (iZ c)), (2, .int (iZ z))] rfl ?_
      refine z_sipush mx mb dL_heighten_13 (by decide +kernel) ?_
      rw [hQ]
      exact z_retI mx mb mr mlk hK (a, S) ⟨by rw [(show hgtV st c z = -3002 from v3_2 e0)], by rw [show (hgtS st c z) = st from s3_n (by omega)]; exact hT⟩ (by rw [show (hgtS st c z) = st from s3_n (by omega)]) dL_heighten_16
  subst hQ
  subst hw0
  exact hstart

set_option maxRecDepth 100000 in
set_option maxHeartbeats 4000000 in
theorem c_L_passing (l : Launch) (hl0 : l.stackTraces = false) (D : va_G) (sz : Nat) (y : Nat → ClassId) (o : Nat → Nat) (a : Nat → Nat → Nat) (S : Nat → Nat → Int → Int) (tb : Nat → Nat) (st : CSt) (n : Int) (h9n : -2147483648 ≤ n ∧ n ≤ 2147483647) (hT : Tie st S) : Met l yL_passing wsL_passing ({ frames := 7, cells := 1, slots := 6, locals := 136 } : Room) (zPe D vwCl (zT y) (wC y o a S tb st) sz [.ref (o 0), .int (iZ n)]) (va_Qi (fun (r : Int32) (u : (Nat → Nat → Nat) × (Nat → Nat → Int → Int)) => r = iZ (pasV st n) ∧ Tie (pasS st n) u.2) (zB D vwCl (zT y) (wC y o a S tb st) sz (fun u : (Nat → Nat → Nat) × (Nat → Nat → Int → Int) => wC y o u.1 u.2 tb (pasS st n))) (va_A (wC y o a S tb st) sz)) 1 6 (va_A (wC y o a S tb st) sz) := by
  obtain ⟨⟨hR, hI, kp, lp⟩, hsc, hTS, hl, htx⟩ := id hT
  refine z_headH (cc := cL_passing) (maxL := 3) (ret := some .int) (hh := [(0, 5, 6, 30), (0, 5, 11, 17)]) [(0, .ref (o 0)), (1, .int (iZ n))] rfl (Nat.le_of_ble_eq_true rfl) (by decide +kernel) rfl ?_
  intro pp ee ss mm below meth cd mx mb mr mml mo mts mlk hK hsz hA hE hXt
  generalize ([.ref (o 0), .int (iZ n)] : List Value).toArray = args at mts ⊢
  obtain ⟨wst, hw0⟩ : ∃ wst, wst = (wC y o a S tb st) := ⟨_, rfl⟩
  replace hE : zE (va_A wst sz) ss ss.heap := by rw [hw0]; exact hE
  replace hA : ∀ q, ss.heap.size ≤ q → va_A wst sz q := by rw [hw0]; exact hA
  obtain ⟨Q, hQ⟩ : ∃ Q, Q = MQ below (va_Qi (fun (r : Int32) (u : (Nat → Nat → Nat) × (Nat → Nat → Int → Int)) => r = iZ (pasV st n) ∧ Tie (pasS st n) u.2) (zB D vwCl (zT y) wst sz (fun u : (Nat → Nat → Nat) × (Nat → Nat → Int → Int) => wC y o u.1 u.2 tb (pasS st n))) (va_A wst sz)) args ss 1 6 (va_A wst sz) := ⟨_, rfl⟩
  have hstart : Gz pp l ee ({ frames := 7, cells := 1, slots := 6, locals := 136 } : Room) ss mm args below meth cd 3 0 0 Q (Zw D vwCl (va_A wst sz) ss (wC y o a S tb st)) 0 [(0, .ref (o 0)), (1, .int (iZ n))] [] := by
    refine z_aload_n mx mb dL_passing_0 rfl 0 rfl ?_
    refine z_iload_n mx mb dL_passing_1 rfl 1 rfl ?_
    rcases thPass_c st.1 n with ⟨e0, h1, h2⟩ | ⟨e0, h1⟩ | ⟨e0, h1, h2⟩
    · refine z_callI (wa := []) (wc := (wC y o a S tb st)) (wb := []) (As := [.int (iZ n)]) (rest := []) ⟨mx, mb, mml, mo, mts⟩ hK hA (fun sz => c_X4_pass l D sz y o a S tb st.2.2.2.1 st.2.2.2.2 st.2.2.1 st.1 n hR hI kp hsc h1 h2) (cwV 1 mts gL_passing_X4_pass rfl rfl rfl (by decide +kernel) ⟨Nat.le_of_ble_eq_true rfl, Nat.le_of_ble_eq_true rfl⟩) (List.append_nil _).symm 0 wB_0 rfl rfl rfl rfl (Nat.le_of_ble_eq_true rfl) ⟨Nat.le_of_ble_eq_true rfl, Nat.le_of_ble_eq_true rfl⟩ dL_passing_2 (fun r u hu => ?_)
      rw [List.nil_append, List.append_nil]
      obtain ⟨a2, S2⟩ := u
      obtain ⟨hr, v0, v1, v2, v3, v4⟩ := hu
      replace v2 : Rel (ticks st.1 n.toNat) (S2 0) := v2
      have tie2 : Tie (savd st (ticks st.1 n.toNat)) S2 := tie_save hT v2 (ok_pass ⟨hI, kp, lp⟩ h1 h2) v3 v4
      obtain rfl : r = iZ (ticks st.1 n.toNat 8 - st.1 8) := hr
      show Gz pp l ee ({ frames := 7, cells := 1, slots := 6, locals := 136 } : Room) ss mm args below meth cd 3 0 0 Q (Zw D vwCl (va_A wst sz) ss (wC y o a2 S2 tb (savd st (ticks st.1 n.toNat)))) 5 [(0, .ref (o 0)), (1, .int (iZ n))] [.int (iZ (ticks st.1 n.toNat 8 - st.1 8))]
      rw [hQ]
      refine z_widen (k1 := 1) (n1 := 6) (by decide) (by decide) ?_
      exact z_retI mx mb mr mlk hK (a2, S2) ⟨by rw [(show pasV st n = ticks st.1 n.toNat 8 - st.1 8 from v3_0 e0)], by rw [show (pasS st n) = (savd st (ticks st.1 n.toNat)) from s3_0 e0]; exact tie2⟩ (by rw [show (pasS st n) = (savd st (ticks st.1 n.toNat)) from s3_0 e0]) dL_passing_5
    · refine z_callXc (wa := []) (wc := (wC y o a S tb st)) (wb := []) (As := [.int (iZ n)]) (rest := []) ⟨mx, mb, mml, mo, mts⟩ hK hA hE (fun sz => c_X4_pass_t1 l hl0 D sz y o a S tb st.2.2.2.1 st.2.2.2.2 st.2.2.1 st.1 n hR hI kp h9n h1) (cwV 1 mts gL_passing_X4_pass rfl rfl rfl (by decide +kernel) ⟨Nat.le_of_ble_eq_true rfl, Nat.le_of_ble_eq_true rfl⟩) (List.append_nil _).symm 0 wB_0 rfl rfl rfl rfl (Nat.le_of_ble_eq_true rfl) ⟨Nat.le_of_ble_eq_true rfl, Nat.le_of_ble_eq_true rfl⟩ dL_passing_2 [] (tE (0, 5, 6, 30)) [tE (0, 5, 11, 17)] (by rw [hXt]; rfl) (fun z hz => nomatch hz) (by decide) (by decide) (mts _ (List.mem_of_getElem? (i := 1) rfl)) (eW_use (List.mem_of_getElem? (i := 5) rfl) (hE.2.2.2.1 _ (List.mem_of_getElem? (i := 5) rfl))) (tgt := 6) rfl (fun q9 => ?_)
      show Gz pp l ee ({ frames := 7, cells := 1, slots := 6, locals := 136 } : Room) ss mm args below meth cd 3 1 6 Q (Zw D vwCl (va_A wst sz) ss (wC y o a S tb st)) 6 [(0, .ref (o 0)), (1, .int (iZ n))] [.ref q9]
      refine z_astore_n mx mb dL_passing_6 rfl (by decide) [(2, .ref q9), (0, .ref (o 0)), (1, .int (iZ n))] rfl ?_
      refine z_sipush mx mb dL_passing_7 (by decide +kernel) ?_
      rw [hQ]
      exact z_retI mx mb mr mlk hK (a, S) ⟨by rw [(show pasV st n = -3002 from v3_1 e0)], by rw [show (pasS st n) = st from s3_n (by omega)]; exact hT⟩ (by rw [show (pasS st n) = st from s3_n (by omega)]) dL_passing_10
    · refine z_callXc (wa := []) (wc := (wC y o a S tb st)) (wb := []) (As := [.int (iZ n)]) (rest := []) ⟨mx, mb, mml, mo, mts⟩ hK hA hE (fun sz => c_X4_pass_t2 l hl0 D sz y o a S tb st.2.2.2.1 st.2.2.2.2 st.2.2.1 st.1 n hR hI kp h1 h2) (cwV 1 mts gL_passing_X4_pass rfl rfl rfl (by decide +kernel) ⟨Nat.le_of_ble_eq_true rfl, Nat.le_of_ble_eq_true rfl⟩) (List.append_nil _).symm 0 wB_0 rfl rfl rfl rfl (Nat.le_of_ble_eq_true rfl) ⟨Nat.le_of_ble_eq_true rfl, Nat.le_of_ble_eq_true rfl⟩ dL_passing_2 [tE (0, 5, 6, 30)] (tE (0, 5, 11, 17)) [] (by rw [hXt]; rfl) (fun z hz => by obtain rfl := List.mem_singleton.mp hz; exact Or.inr ⟨by decide, _, (mts _ (List.mem_of_getElem? (i := 1) rfl)), hE.2.2.1.2.2.2.2⟩) (by decide) (by decide) (mts _ (List.mem_of_getElem? (i := 2) rfl)) (eW_use (List.mem_of_getElem? (i := 4) rfl) (hE.2.2.2.1 _ (List.mem_of_getElem? (i := 4) rfl))) (tgt := 11) rfl (fun q9 => ?_)
      show Gz pp l ee ({ frames := 7, cells := 1, slots := 6, locals := 136 } : Room) ss mm args below meth cd 3 1 6 Q (Zw D vwCl (va_A wst sz) ss (wC y o a S tb st)) 11 [(0, .ref (o 0)), (1, .int (iZ n))] [.ref q9]
      refine z_astore_n mx mb dL_passing_11 rfl (by decide) [(2, .ref q9), (0, .ref (o 0)), (1, .int (iZ n))] rfl ?_
      refine z_sipush mx mb dL_passing_12 (by decide +kernel) ?_
      rw [hQ]
      exact z_retI mx mb mr mlk hK (a, S) ⟨by rw [(show pasV st n = -3003 from v3_2 e0)], by rw [show (pasS st n) = st from s3_n (by omega)]; exact hT⟩ (by rw [show (pasS st n) = st from s3_n (by omega)]) dL_passing_15
  subst hQ
  subst hw0
  exact hstart

set_option maxRecDepth 100000 in
set_option maxHeartbeats 4000000 in
theorem c_L_trainBy (l : Launch) (hl0 : l.stackTraces = false) (D : va_G) (sz : Nat) (y : Nat → ClassId) (o : Nat → Nat) (a : Nat → Nat → Nat) (S : Nat → Nat → Int → Int) (tb : Nat → Nat) (st : CSt) (t w : Int) (h9t : -2147483648 ≤ t ∧ t ≤ 2147483647) (h9w : -2147483648 ≤ w ∧ w ≤ 2147483647) (hT : Tie st S) : Met l yL_trainBy wsL_trainBy ({ frames := 8, cells := 1, slots := 6, locals := 134 } : Room) (zPe D vwCl (zT y) (wC y o a S tb st) sz [.ref (o 0), .int (iZ t), .int (iZ w)]) (va_Qi (fun (r : Int32) (u : (Nat → Nat → Nat) × (Nat → Nat → Int → Int)) => r = iZ (trnV st t w) ∧ Tie st u.2) (zB D vwCl (zT y) (wC y o a S tb st) sz (fun u : (Nat → Nat → Nat) × (Nat → Nat → Int → Int) => wC y o u.1 u.2 tb st)) (va_A (wC y o a S tb st) sz)) 1 6 (va_A (wC y o a S tb st) sz) := by
  obtain ⟨⟨hR, hI, kp, lp⟩, hsc, hTS, hl, htx⟩ := id hT
  refine z_headH (cc := cL_trainBy) (maxL := 4) (ret := some .int) (hh := [(0, 6, 7, 15), (0, 6, 12, 30)]) [(0, .ref (o 0)), (1, .int (iZ t)), (2, .int (iZ w))] rfl (Nat.le_of_ble_eq_true rfl) (by decide +kernel) rfl ?_
  intro pp ee ss mm below meth cd mx mb mr mml mo mts mlk hK hsz hA hE hXt
  generalize ([.ref (o 0), .int (iZ t), .int (iZ w)] : List Value).toArray = args at mts ⊢
  obtain ⟨wst, hw0⟩ : ∃ wst, wst = (wC y o a S tb st) := ⟨_, rfl⟩
  replace hE : zE (va_A wst sz) ss ss.heap := by rw [hw0]; exact hE
  replace hA : ∀ q, ss.heap.size ≤ q → va_A wst sz q := by rw [hw0]; exact hA
  obtain ⟨Q, hQ⟩ : ∃ Q, Q = MQ below (va_Qi (fun (r : Int32) (u : (Nat → Nat → Nat) × (Nat → Nat → Int → Int)) => r = iZ (trnV st t w) ∧ Tie st u.2) (zB D vwCl (zT y) wst sz (fun u : (Nat → Nat → Nat) × (Nat → Nat → Int → Int) => wC y o u.1 u.2 tb st)) (va_A wst sz)) args ss 1 6 (va_A wst sz) := ⟨_, rfl⟩
  have hstart : Gz pp l ee ({ frames := 8, cells := 1, slots := 6, locals := 134 } : Room) ss mm args below meth cd 4 0 0 Q (Zw D vwCl (va_A wst sz) ss (wC y o a S tb st)) 0 [(0, .ref (o 0)), (1, .int (iZ t)), (2, .int (iZ w))] [] := by
    refine z_aload_n mx mb dL_trainBy_0 rfl 0 rfl ?_
    refine z_iload_n mx mb dL_trainBy_1 rfl 1 rfl ?_
    refine z_iload_n mx mb dL_trainBy_2 rfl 2 rfl ?_
    rcases thIn_c t (st.1 2) w 9 with ⟨e0, h1, h2⟩ | ⟨e0, h1⟩ | ⟨e0, h1, h2⟩
    · refine z_callI (wa := []) (wc := (wC y o a S tb st)) (wb := []) (As := [.int (iZ t), .int (iZ w)]) (rest := []) ⟨mx, mb, mml, mo, mts⟩ hK hA (fun sz => c_X4_train l D sz y o a S tb st.2.2.2.1 st.2.2.2.2 st.2.2.1 st.1 t w hR hI kp h1 h2) (cwV 2 mts gL_trainBy_X4_train rfl rfl rfl (by decide +kernel) ⟨Nat.le_of_ble_eq_true rfl, Nat.le_of_ble_eq_true rfl⟩) (List.append_nil _).symm 0 wB_0 rfl rfl rfl rfl (Nat.le_of_ble_eq_true rfl) ⟨Nat.le_of_ble_eq_true rfl, Nat.le_of_ble_eq_true rfl⟩ dL_trainBy_3 (fun r u hu => ?_)
      rw [List.nil_append, List.append_nil]
      have hr := hu
      have tie2 := hT
      obtain rfl : r = iZ (trainOf st.1 t w) := hr
      show Gz pp l ee ({ frames := 8, cells := 1, slots := 6, locals := 134 } : Room) ss mm args below meth cd 4 0 0 Q (Zw D vwCl (va_A wst sz) ss (wC y o a S tb st)) 6 [(0, .ref (o 0)), (1, .int (iZ t)), (2, .int (iZ w))] [.int (iZ (trainOf st.1 t w))]
      rw [hQ]
      refine z_widen (k1 := 1) (n1 := 6) (by decide) (by decide) ?_
      exact z_retI mx mb mr mlk hK (a, S) ⟨by rw [(show trnV st t w = trainOf st.1 t w from v3_0 e0)], by exact tie2⟩ (by rfl) dL_trainBy_6
    · refine z_callXc (wa := []) (wc := (wC y o a S tb st)) (wb := []) (As := [.int (iZ t), .int (iZ w)]) (rest := []) ⟨mx, mb, mml, mo, mts⟩ hK hA hE (fun sz => c_X4_train_t1 l hl0 D sz y o a S tb st.2.2.2.1 st.2.2.2.2 st.2.2.1 st.1 t w hR hI kp h9t h9w h1) (cwV 2 mts gL_trainBy_X4_train rfl rfl rfl (by decide +kernel) ⟨Nat.le_of_ble_eq_true rfl, Nat.le_of_ble_eq_true rfl⟩) (List.append_nil _).symm 0 wB_0 rfl rfl rfl rfl (Nat.le_of_ble_eq_true rfl) ⟨Nat.le_of_ble_eq_true rfl, Nat.le_of_ble_eq_true rfl⟩ dL_trainBy_3 [] (tE (0, 6, 7, 15)) [tE (0, 6, 12, 30)] (by rw [hXt]; rfl) (fun z hz => nomatch hz) (by decide) (by decide) (mts _ (List.mem_of_getElem? (i := 1) rfl)) (eW_use (List.mem_of_getElem? (i := 3) rfl) (hE.2.2.2.1 _ (List.mem_of_getElem? (i := 3) rfl))) (tgt := 7) rfl (fun q9 => ?_)
      show Gz pp l ee ({ frames := 8, cells := 1, slots := 6, locals := 134 } : Room) ss mm args below meth cd 4 1 6 Q (Zw D vwCl (va_A wst sz) ss (wC y o a S tb st)) 7 [(0, .ref (o 0)), (1, .int (iZ t)), (2, .int (iZ w))] [.ref q9]
      refine z_astore_n mx mb dL_trainBy_7 rfl (by decide) [(3, .ref q9), (0, .ref (o 0)), (1, .int (iZ t)), (2, .int (iZ w))] rfl ?_
      refine z_sipush mx mb dL_trainBy_8 (by decide +kernel) ?_
      rw [hQ]
      exact z_retI mx mb mr mlk hK (a, S) ⟨by rw [(show trnV st t w = -3001 from v3_1 e0)], by exact hT⟩ (by rfl) dL_trainBy_11
    · refine z_callXc (wa := []) (wc := (wC y o a S tb st)) (wb := []) (As := [.int (iZ t), .int (iZ w)]) (rest := []) ⟨mx, mb, mml, mo, mts⟩ hK hA hE (fun sz => c_X4_train_t2 l hl0 D sz y o a S tb st.2.2.2.1 st.2.2.2.2 st.2.2.1 st.1 t w hR hI kp h9w h1 h2) (cwV 2 mts gL_trainBy_X4_train rfl rfl rfl (by decide +kernel) ⟨Nat.le_of_ble_eq_true rfl, Nat.le_of_ble_eq_true rfl⟩) (List.append_nil _).symm 0 wB_0 rfl rfl rfl rfl (Nat.le_of_ble_eq_true rfl) ⟨Nat.le_of_ble_eq_true rfl, Nat.le_of_ble_eq_true rfl⟩ dL_trainBy_3 [tE (0, 6, 7, 15)] (tE (0, 6, 12, 30)) [] (by rw [hXt]; rfl) (fun z hz => by obtain rfl := List.mem_singleton.mp hz; exact Or.inr ⟨by decide, _, (mts _ (List.mem_of_getElem? (i := 1) rfl)), hE.2.2.1.2.2.2.1⟩) (by decide) (by decide) (mts _ (List.mem_of_getElem? (i := 2) rfl)) (eW_use (List.mem_of_getElem? (i := 5) rfl) (hE.2.2.2.1 _ (List.mem_of_getElem? (i := 5) rfl))) (tgt := 12) rfl (fun q9 => ?_)
      show Gz pp l ee ({ frames := 8, cells := 1, slots := 6, locals := 134 } : Room) ss mm args below meth cd 4 1 6 Q (Zw D vwCl (va_A wst sz) ss (wC y o a S tb st)) 12 [(0, .ref (o 0)), (1, .int (iZ t)), (2, .int (iZ w))] [.ref q9]
      refine z_astore_n mx mb dL_trainBy_12 rfl (by decide) [(3, .ref q9), (0, .ref (o 0)), (1, .int (iZ t)), (2, .int (iZ w))] rfl ?_
      refine z_sipush mx mb dL_trainBy_13 (by decide +kernel) ?_
      rw [hQ]
      exact z_retI mx mb mr mlk hK (a, S) ⟨by rw [(show trnV st t w = -3002 from v3_2 e0)], by exact hT⟩ (by rfl) dL_trainBy_16
  subst hQ
  subst hw0
  exact hstart

set_option maxRecDepth 100000 in
set_option maxHeartbeats 4000000 in
theorem c_L_cellBy (l : Launch) (hl0 : l.stackTraces = false) (D : va_G) (sz : Nat) (y : Nat → ClassId) (o : Nat → Nat) (a : Nat → Nat → Nat) (S : Nat → Nat → Int → Int) (tb : Nat → Nat) (st : CSt) (c w : Int) (h9c : -2147483648 ≤ c ∧ c ≤ 2147483647) (h9w : -2147483648 ≤ w ∧ w ≤ 2147483647) (hT : Tie st S) : Met l yL_cellBy wsL_cellBy ({ frames := 8, cells := 1, slots := 6, locals := 133 } : Room) (zPe D vwCl (zT y) (wC y o a S tb st) sz [.ref (o 0), .int (iZ c), .int (iZ w)]) (va_Qi (fun (r : Int32) (u : (Nat → Nat → Nat) × (Nat → Nat → Int → Int)) => r = iZ (celV st c w) ∧ Tie st u.2) (zB D vwCl (zT y) (wC y o a S tb st) sz (fun u : (Nat → Nat → Nat) × (Nat → Nat → Int → Int) => wC y o u.1 u.2 tb st)) (va_A (wC y o a S tb st) sz)) 1 6 (va_A (wC y o a S tb st) sz) := by
  obtain ⟨⟨hR, hI, kp, lp⟩, hsc, hTS, hl, htx⟩ := id hT
  refine z_headH (cc := cL_cellBy) (maxL := 4) (ret := some .int) (hh := [(0, 6, 7, 15), (0, 6, 12, 30)]) [(0, .ref (o 0)), (1, .int (iZ c)), (2, .int (iZ w))] rfl (Nat.le_of_ble_eq_true rfl) (by decide +kernel) rfl ?_
  intro pp ee ss mm below meth cd mx mb mr mml mo mts mlk hK hsz hA hE hXt
  generalize ([.ref (o 0), .int (iZ c), .int (iZ w)] : List Value).toArray = args at mts ⊢
  obtain ⟨wst, hw0⟩ : ∃ wst, wst = (wC y o a S tb st) := ⟨_, rfl⟩
  replace hE : zE (va_A wst sz) ss ss.heap := by rw [hw0]; exact hE
  replace hA : ∀ q, ss.heap.size ≤ q → va_A wst sz q := by rw [hw0]; exact hA
  obtain ⟨Q, hQ⟩ : ∃ Q, Q = MQ below (va_Qi (fun (r : Int32) (u : (Nat → Nat → Nat) × (Nat → Nat → Int → Int)) => r = iZ (celV st c w) ∧ Tie st u.2) (zB D vwCl (zT y) wst sz (fun u : (Nat → Nat → Nat) × (Nat → Nat → Int → Int) => wC y o u.1 u.2 tb st)) (va_A wst sz)) args ss 1 6 (va_A wst sz) := ⟨_, rfl⟩
  have hstart : Gz pp l ee ({ frames := 8, cells := 1, slots := 6, locals := 133 } : Room) ss mm args below meth cd 4 0 0 Q (Zw D vwCl (va_A wst sz) ss (wC y o a S tb st)) 0 [(0, .ref (o 0)), (1, .int (iZ c)), (2, .int (iZ w))] [] := by
    refine z_aload_n mx mb dL_cellBy_0 rfl 0 rfl ?_
    refine z_iload_n mx mb dL_cellBy_1 rfl 1 rfl ?_
    refine z_iload_n mx mb dL_cellBy_2 rfl 2 rfl ?_
    rcases thIn_c c (st.1 0) w 3 with ⟨e0, h1, h2⟩ | ⟨e0, h1⟩ | ⟨e0, h1, h2⟩
    · refine z_callI (wa := []) (wc := (wC y o a S tb st)) (wb := []) (As := [.int (iZ c), .int (iZ w)]) (rest := []) ⟨mx, mb, mml, mo, mts⟩ hK hA (fun sz => c_X4_cell l D sz y o a S tb st.2.2.2.1 st.2.2.2.2 st.2.2.1 st.1 c w hR hI kp h1 h2) (cwV 2 mts gL_cellBy_X4_cell rfl rfl rfl (by decide +kernel) ⟨Nat.le_of_ble_eq_true rfl, Nat.le_of_ble_eq_true rfl⟩) (List.append_nil _).symm 0 wB_0 rfl rfl rfl rfl (Nat.le_of_ble_eq_true rfl) ⟨Nat.le_of_ble_eq_true rfl, Nat.le_of_ble_eq_true rfl⟩ dL_cellBy_3 (fun r u hu => ?_)
      rw [List.nil_append, List.append_nil]
      have hr := hu
      have tie2 := hT
      obtain rfl : r = iZ (cellOf st.1 c w) := hr
      show Gz pp l ee ({ frames := 8, cells := 1, slots := 6, locals := 133 } : Room) ss mm args below meth cd 4 0 0 Q (Zw D vwCl (va_A wst sz) ss (wC y o a S tb st)) 6 [(0, .ref (o 0)), (1, .int (iZ c)), (2, .int (iZ w))] [.int (iZ (cellOf st.1 c w))]
      rw [hQ]
      refine z_widen (k1 := 1) (n1 := 6) (by decide) (by decide) ?_
      exact z_retI mx mb mr mlk hK (a, S) ⟨by rw [(show celV st c w = cellOf st.1 c w from v3_0 e0)], by exact tie2⟩ (by rfl) dL_cellBy_6
    · refine z_callXc (wa := []) (wc := (wC y o a S tb st)) (wb := []) (As := [.int (iZ c), .int (iZ w)]) (rest := []) ⟨mx, mb, mml, mo, mts⟩ hK hA hE (fun sz => c_X4_cell_t1 l hl0 D sz y o a S tb st.2.2.2.1 st.2.2.2.2 st.2.2.1 st.1 c w hR hI kp h9c h9w h1) (cwV 2 mts gL_cellBy_X4_cell rfl rfl rfl (by decide +kernel) ⟨Nat.le_of_ble_eq_true rfl, Nat.le_of_ble_eq_true rfl⟩) (List.append_nil _).symm 0 wB_0 rfl rfl rfl rfl (Nat.le_of_ble_eq_true rfl) ⟨Nat.le_of_ble_eq_true rfl, Nat.le_of_ble_eq_true rfl⟩ dL_cellBy_3 [] (tE (0, 6, 7, 15)) [tE (0, 6, 12, 30)] (by rw [hXt]; rfl) (fun z hz => nomatch hz) (by decide) (by decide) (mts _ (List.mem_of_getElem? (i := 1) rfl)) (eW_use (List.mem_of_getElem? (i := 3) rfl) (hE.2.2.2.1 _ (List.mem_of_getElem? (i := 3) rfl))) (tgt := 7) rfl (fun q9 => ?_)
      show Gz pp l ee ({ frames := 8, cells := 1, slots := 6, locals := 133 } : Room) ss mm args below meth cd 4 1 6 Q (Zw D vwCl (va_A wst sz) ss (wC y o a S tb st)) 7 [(0, .ref (o 0)), (1, .int (iZ c)), (2, .int (iZ w))] [.ref q9]
      refine z_astore_n mx mb dL_cellBy_7 rfl (by decide) [(3, .ref q9), (0, .ref (o 0)), (1, .int (iZ c)), (2, .int (iZ w))] rfl ?_
      refine z_sipush mx mb dL_cellBy_8 (by decide +kernel) ?_
      rw [hQ]
      exact z_retI mx mb mr mlk hK (a, S) ⟨by rw [(show celV st c w = -3001 from v3_1 e0)], by exact hT⟩ (by rfl) dL_cellBy_11
    · refine z_callXc (wa := []) (wc := (wC y o a S tb st)) (wb := []) (As := [.int (iZ c), .int (iZ w)]) (rest := []) ⟨mx, mb, mml, mo, mts⟩ hK hA hE (fun sz => c_X4_cell_t2 l hl0 D sz y o a S tb st.2.2.2.1 st.2.2.2.2 st.2.2.1 st.1 c w hR hI kp h9w h1 h2) (cwV 2 mts gL_cellBy_X4_cell rfl rfl rfl (by decide +kernel) ⟨Nat.le_of_ble_eq_true rfl, Nat.le_of_ble_eq_true rfl⟩) (List.append_nil _).symm 0 wB_0 rfl rfl rfl rfl (Nat.le_of_ble_eq_true rfl) ⟨Nat.le_of_ble_eq_true rfl, Nat.le_of_ble_eq_true rfl⟩ dL_cellBy_3 [tE (0, 6, 7, 15)] (tE (0, 6, 12, 30)) [] (by rw [hXt]; rfl) (fun z hz => by obtain rfl := List.mem_singleton.mp hz; exact Or.inr ⟨by decide, _, (mts _ (List.mem_of_getElem? (i := 1) rfl)), hE.2.2.1.2.2.2.1⟩) (by decide) (by decide) (mts _ (List.mem_of_getElem? (i := 2) rfl)) (eW_use (List.mem_of_getElem? (i := 5) rfl) (hE.2.2.2.1 _ (List.mem_of_getElem? (i := 5) rfl))) (tgt := 12) rfl (fun q9 => ?_)
      show Gz pp l ee ({ frames := 8, cells := 1, slots := 6, locals := 133 } : Room) ss mm args below meth cd 4 1 6 Q (Zw D vwCl (va_A wst sz) ss (wC y o a S tb st)) 12 [(0, .ref (o 0)), (1, .int (iZ c)), (2, .int (iZ w))] [.ref q9]
      refine z_astore_n mx mb dL_cellBy_12 rfl (by decide) [(3, .ref q9), (0, .ref (o 0)), (1, .int (iZ c)), (2, .int (iZ w))] rfl ?_
      refine z_sipush mx mb dL_cellBy_13 (by decide +kernel) ?_
      rw [hQ]
      exact z_retI mx mb mr mlk hK (a, S) ⟨by rw [(show celV st c w = -3002 from v3_2 e0)], by exact hT⟩ (by rfl) dL_cellBy_16
  subst hQ
  subst hw0
  exact hstart

set_option maxRecDepth 100000 in
set_option maxHeartbeats 4000000 in
theorem c_L_blockBy (l : Launch) (hl0 : l.stackTraces = false) (D : va_G) (sz : Nat) (y : Nat → ClassId) (o : Nat → Nat) (a : Nat → Nat → Nat) (S : Nat → Nat → Int → Int) (tb : Nat → Nat) (st : CSt) (c w : Int) (h9c : -2147483648 ≤ c ∧ c ≤ 2147483647) (h9w : -2147483648 ≤ w ∧ w ≤ 2147483647) (hT : Tie st S) : Met l yL_blockBy wsL_blockBy ({ frames := 8, cells := 1, slots := 6, locals := 133 } : Room) (zPe D vwCl (zT y) (wC y o a S tb st) sz [.ref (o 0), .int (iZ c), .int (iZ w)]) (va_Qi (fun (r : Int32) (u : (Nat → Nat → Nat) × (Nat → Nat → Int → Int)) => r = iZ (blkV st c w) ∧ Tie st u.2) (zB D vwCl (zT y) (wC y o a S tb st) sz (fun u : (Nat → Nat → Nat) × (Nat → Nat → Int → Int) => wC y o u.1 u.2 tb st)) (va_A (wC y o a S tb st) sz)) 1 6 (va_A (wC y o a S tb st) sz) := by
  obtain ⟨⟨hR, hI, kp, lp⟩, hsc, hTS, hl, htx⟩ := id hT
  refine z_headH (cc := cL_blockBy) (maxL := 4) (ret := some .int) (hh := [(0, 6, 7, 15), (0, 6, 12, 30)]) [(0, .ref (o 0)), (1, .int (iZ c)), (2, .int (iZ w))] rfl (Nat.le_of_ble_eq_true rfl) (by decide +kernel) rfl ?_
  intro pp ee ss mm below meth cd mx mb mr mml mo mts mlk hK hsz hA hE hXt
  generalize ([.ref (o 0), .int (iZ c), .int (iZ w)] : List Value).toArray = args at mts ⊢
  obtain ⟨wst, hw0⟩ : ∃ wst, wst = (wC y o a S tb st) := ⟨_, rfl⟩
  replace hE : zE (va_A wst sz) ss ss.heap := by rw [hw0]; exact hE
  replace hA : ∀ q, ss.heap.size ≤ q → va_A wst sz q := by rw [hw0]; exact hA
  obtain ⟨Q, hQ⟩ : ∃ Q, Q = MQ below (va_Qi (fun (r : Int32) (u : (Nat → Nat → Nat) × (Nat → Nat → Int → Int)) => r = iZ (blkV st c w) ∧ Tie st u.2) (zB D vwCl (zT y) wst sz (fun u : (Nat → Nat → Nat) × (Nat → Nat → Int → Int) => wC y o u.1 u.2 tb st)) (va_A wst sz)) args ss 1 6 (va_A wst sz) := ⟨_, rfl⟩
  have hstart : Gz pp l ee ({ frames := 8, cells := 1, slots := 6, locals := 133 } : Room) ss mm args below meth cd 4 0 0 Q (Zw D vwCl (va_A wst sz) ss (wC y o a S tb st)) 0 [(0, .ref (o 0)), (1, .int (iZ c)), (2, .int (iZ w))] [] := by
    refine z_aload_n mx mb dL_blockBy_0 rfl 0 rfl ?_
    refine z_iload_n mx mb dL_blockBy_1 rfl 1 rfl ?_
    refine z_iload_n mx mb dL_blockBy_2 rfl 2 rfl ?_
    rcases thIn_c c (st.1 1) w 4 with ⟨e0, h1, h2⟩ | ⟨e0, h1⟩ | ⟨e0, h1, h2⟩
    · refine z_callI (wa := []) (wc := (wC y o a S tb st)) (wb := []) (As := [.int (iZ c), .int (iZ w)]) (rest := []) ⟨mx, mb, mml, mo, mts⟩ hK hA (fun sz => c_X4_block l D sz y o a S tb st.2.2.2.1 st.2.2.2.2 st.2.2.1 st.1 c w hR hI kp h1 h2) (cwV 2 mts gL_blockBy_X4_block rfl rfl rfl (by decide +kernel) ⟨Nat.le_of_ble_eq_true rfl, Nat.le_of_ble_eq_true rfl⟩) (List.append_nil _).symm 0 wB_0 rfl rfl rfl rfl (Nat.le_of_ble_eq_true rfl) ⟨Nat.le_of_ble_eq_true rfl, Nat.le_of_ble_eq_true rfl⟩ dL_blockBy_3 (fun r u hu => ?_)
      rw [List.nil_append, List.append_nil]
      have hr := hu
      have tie2 := hT
      obtain rfl : r = iZ (blockOf st.1 c w) := hr
      show Gz pp l ee ({ frames := 8, cells := 1, slots := 6, locals := 133 } : Room) ss mm args below meth cd 4 0 0 Q (Zw D vwCl (va_A wst sz) ss (wC y o a S tb st)) 6 [(0, .ref (o 0)), (1, .int (iZ c)), (2, .int (iZ w))] [.int (iZ (blockOf st.1 c w))]
      rw [hQ]
      refine z_widen (k1 := 1) (n1 := 6) (by decide) (by decide) ?_
      exact z_retI mx mb mr mlk hK (a, S) ⟨by rw [(show blkV st c w = blockOf st.1 c w from v3_0 e0)], by exact tie2⟩ (by rfl) dL_blockBy_6
    · refine z_callXc (wa := []) (wc := (wC y o a S tb st)) (wb := []) (As := [.int (iZ c), .int (iZ w)]) (rest := []) ⟨mx, mb, mml, mo, mts⟩ hK hA hE (fun sz => c_X4_block_t1 l hl0 D sz y o a S tb st.2.2.2.1 st.2.2.2.2 st.2.2.1 st.1 c w hR hI kp h9c h9w h1) (cwV 2 mts gL_blockBy_X4_block rfl rfl rfl (by decide +kernel) ⟨Nat.le_of_ble_eq_true rfl, Nat.le_of_ble_eq_true rfl⟩) (List.append_nil _).symm 0 wB_0 rfl rfl rfl rfl (Nat.le_of_ble_eq_true rfl) ⟨Nat.le_of_ble_eq_true rfl, Nat.le_of_ble_eq_true rfl⟩ dL_blockBy_3 [] (tE (0, 6, 7, 15)) [tE (0, 6, 12, 30)] (by rw [hXt]; rfl) (fun z hz => nomatch hz) (by decide) (by decide) (mts _ (List.mem_of_getElem? (i := 1) rfl)) (eW_use (List.mem_of_getElem? (i := 3) rfl) (hE.2.2.2.1 _ (List.mem_of_getElem? (i := 3) rfl))) (tgt := 7) rfl (fun q9 => ?_)
      show Gz pp l ee ({ frames := 8, cells := 1, slots := 6, locals := 133 } : Room) ss mm args below meth cd 4 1 6 Q (Zw D vwCl (va_A wst sz) ss (wC y o a S tb st)) 7 [(0, .ref (o 0)), (1, .int (iZ c)), (2, .int (iZ w))] [.ref q9]
      refine z_astore_n mx mb dL_blockBy_7 rfl (by decide) [(3, .ref q9), (0, .ref (o 0)), (1, .int (iZ c)), (2, .int (iZ w))] rfl ?_
      refine z_sipush mx mb dL_blockBy_8 (by decide +kernel) ?_
      rw [hQ]
      exact z_retI mx mb mr mlk hK (a, S) ⟨by rw [(show blkV st c w = -3001 from v3_1 e0)], by exact hT⟩ (by rfl) dL_blockBy_11
    · refine z_callXc (wa := []) (wc := (wC y o a S tb st)) (wb := []) (As := [.int (iZ c), .int (iZ w)]) (rest := []) ⟨mx, mb, mml, mo, mts⟩ hK hA hE (fun sz => c_X4_block_t2 l hl0 D sz y o a S tb st.2.2.2.1 st.2.2.2.2 st.2.2.1 st.1 c w hR hI kp h9w h1 h2) (cwV 2 mts gL_blockBy_X4_block rfl rfl rfl (by decide +kernel) ⟨Nat.le_of_ble_eq_true rfl, Nat.le_of_ble_eq_true rfl⟩) (List.append_nil _).symm 0 wB_0 rfl rfl rfl rfl (Nat.le_of_ble_eq_true rfl) ⟨Nat.le_of_ble_eq_true rfl, Nat.le_of_ble_eq_true rfl⟩ dL_blockBy_3 [tE (0, 6, 7, 15)] (tE (0, 6, 12, 30)) [] (by rw [hXt]; rfl) (fun z hz => by obtain rfl := List.mem_singleton.mp hz; exact Or.inr ⟨by decide, _, (mts _ (List.mem_of_getElem? (i := 1) rfl)), hE.2.2.1.2.2.2.1⟩) (by decide) (by decide) (mts _ (List.mem_of_getElem? (i := 2) rfl)) (eW_use (List.mem_of_getElem? (i := 5) rfl) (hE.2.2.2.1 _ (List.mem_of_getElem? (i := 5) rfl))) (tgt := 12) rfl (fun q9 => ?_)
      show Gz pp l ee ({ frames := 8, cells := 1, slots := 6, locals := 133 } : Room) ss mm args below meth cd 4 1 6 Q (Zw D vwCl (va_A wst sz) ss (wC y o a S tb st)) 12 [(0, .ref (o 0)), (1, .int (iZ c)), (2, .int (iZ w))] [.ref q9]
      refine z_astore_n mx mb dL_blockBy_12 rfl (by decide) [(3, .ref q9), (0, .ref (o 0)), (1, .int (iZ c)), (2, .int (iZ w))] rfl ?_
      refine z_sipush mx mb dL_blockBy_13 (by decide +kernel) ?_
      rw [hQ]
      exact z_retI mx mb mr mlk hK (a, S) ⟨by rw [(show blkV st c w = -3002 from v3_2 e0)], by exact hT⟩ (by rfl) dL_blockBy_16
  subst hQ
  subst hw0
  exact hstart

set_option maxRecDepth 100000 in
set_option maxHeartbeats 4000000 in
theorem c_L_all (l : Launch) (hl0 : l.stackTraces = false) (D : va_G) (sz : Nat) (y : Nat → ClassId) (o : Nat → Nat) (a : Nat → Nat → Nat) (S : Nat → Nat → Int → Int) (tb : Nat → Nat) (st : CSt) (w : Int) (h9w : -2147483648 ≤ w ∧ w ≤ 2147483647) (hT : Tie st S) : Met l yL_all wsL_all ({ frames := 7, cells := 1, slots := 6, locals := 111 } : Room) (zPe D vwCl (zT y) (wC y o a S tb st) sz [.ref (o 0), .int (iZ w)]) (va_Qi (fun (r : Int32) (u : (Nat → Nat → Nat) × (Nat → Nat → Int → Int)) => r = iZ (allV st w) ∧ Tie st u.2) (zB D vwCl (zT y) (wC y o a S tb st) sz (fun u : (Nat → Nat → Nat) × (Nat → Nat → Int → Int) => wC y o u.1 u.2 tb st)) (va_A (wC y o a S tb st) sz)) 1 6 (va_A (wC y o a S tb st) sz) := by
  obtain ⟨⟨hR, hI, kp, lp⟩, hsc, hTS, hl, htx⟩ := id hT
  refine z_headH (cc := cL_all) (maxL := 3) (ret := some .int) (hh := [(0, 5, 6, 30)]) [(0, .ref (o 0)), (1, .int (iZ w))] rfl (Nat.le_of_ble_eq_true rfl) (by decide +kernel) rfl ?_
  intro pp ee ss mm below meth cd mx mb mr mml mo mts mlk hK hsz hA hE hXt
  generalize ([.ref (o 0), .int (iZ w)] : List Value).toArray = args at mts ⊢
  obtain ⟨wst, hw0⟩ : ∃ wst, wst = (wC y o a S tb st) := ⟨_, rfl⟩
  replace hE : zE (va_A wst sz) ss ss.heap := by rw [hw0]; exact hE
  replace hA : ∀ q, ss.heap.size ≤ q → va_A wst sz q := by rw [hw0]; exact hA
  obtain ⟨Q, hQ⟩ : ∃ Q, Q = MQ below (va_Qi (fun (r : Int32) (u : (Nat → Nat → Nat) × (Nat → Nat → Int → Int)) => r = iZ (allV st w) ∧ Tie st u.2) (zB D vwCl (zT y) wst sz (fun u : (Nat → Nat → Nat) × (Nat → Nat → Int → Int) => wC y o u.1 u.2 tb st)) (va_A wst sz)) args ss 1 6 (va_A wst sz) := ⟨_, rfl⟩
  have hstart : Gz pp l ee ({ frames := 7, cells := 1, slots := 6, locals := 111 } : Room) ss mm args below meth cd 3 0 0 Q (Zw D vwCl (va_A wst sz) ss (wC y o a S tb st)) 0 [(0, .ref (o 0)), (1, .int (iZ w))] [] := by
    refine z_aload_n mx mb dL_all_0 rfl 0 rfl ?_
    refine z_iload_n mx mb dL_all_1 rfl 1 rfl ?_
    rcases thOne_d w 11 with ⟨e0, h1⟩ | ⟨e0, h1⟩
    · refine z_callI (wa := []) (wc := (wC y o a S tb st)) (wb := []) (As := [.int (iZ w)]) (rest := []) ⟨mx, mb, mml, mo, mts⟩ hK hA (fun sz => c_X4_value l D sz y o a S tb st.2.2.2.1 st.2.2.2.2 st.2.2.1 st.1 w hR hI kp h1) (cwV 1 mts gL_all_X4_value rfl rfl rfl (by decide +kernel) ⟨Nat.le_of_ble_eq_true rfl, Nat.le_of_ble_eq_true rfl⟩) (List.append_nil _).symm 0 wB_0 rfl rfl rfl rfl (Nat.le_of_ble_eq_true rfl) ⟨Nat.le_of_ble_eq_true rfl, Nat.le_of_ble_eq_true rfl⟩ dL_all_2 (fun r u hu => ?_)
      rw [List.nil_append, List.append_nil]
      have hr := hu
      have tie2 := hT
      obtain rfl : r = iZ (valueOf st.1 w) := hr
      show Gz pp l ee ({ frames := 7, cells := 1, slots := 6, locals := 111 } : Room) ss mm args below meth cd 3 0 0 Q (Zw D vwCl (va_A wst sz) ss (wC y o a S tb st)) 5 [(0, .ref (o 0)), (1, .int (iZ w))] [.int (iZ (valueOf st.1 w))]
      rw [hQ]
      refine z_widen (k1 := 1) (n1 := 6) (by decide) (by decide) ?_
      exact z_retI mx mb mr mlk hK (a, S) ⟨by rw [(show allV st w = valueOf st.1 w from v3_0 e0)], by exact tie2⟩ (by rfl) dL_all_5
    · refine z_callXc (wa := []) (wc := (wC y o a S tb st)) (wb := []) (As := [.int (iZ w)]) (rest := []) ⟨mx, mb, mml, mo, mts⟩ hK hA hE (fun sz => c_X4_value_t l hl0 D sz y o a S tb st.2.2.2.1 st.2.2.2.2 st.2.2.1 st.1 w hR hI kp h9w h1) (cwV 1 mts gL_all_X4_value rfl rfl rfl (by decide +kernel) ⟨Nat.le_of_ble_eq_true rfl, Nat.le_of_ble_eq_true rfl⟩) (List.append_nil _).symm 0 wB_0 rfl rfl rfl rfl (Nat.le_of_ble_eq_true rfl) ⟨Nat.le_of_ble_eq_true rfl, Nat.le_of_ble_eq_true rfl⟩ dL_all_2 [] (tE (0, 5, 6, 30)) [] (by rw [hXt]; rfl) (fun z hz => nomatch hz) (by decide) (by decide) (mts _ (List.mem_of_getElem? (i := 1) rfl)) (eW_use (List.mem_of_getElem? (i := 5) rfl) (hE.2.2.2.1 _ (List.mem_of_getElem? (i := 5) rfl))) (tgt := 6) rfl (fun q9 => ?_)
      show Gz pp l ee ({ frames := 7, cells := 1, slots := 6, locals := 111 } : Room) ss mm args below meth cd 3 1 6 Q (Zw D vwCl (va_A wst sz) ss (wC y o a S tb st)) 6 [(0, .ref (o 0)), (1, .int (iZ w))] [.ref q9]
      refine z_astore_n mx mb dL_all_6 rfl (by decide) [(2, .ref q9), (0, .ref (o 0)), (1, .int (iZ w))] rfl ?_
      refine z_sipush mx mb dL_all_7 (by decide +kernel) ?_
      rw [hQ]
      exact z_retI mx mb mr mlk hK (a, S) ⟨by rw [(show allV st w = -3002 from v3_1 e0)], by exact hT⟩ (by rfl) dL_all_10
  subst hQ
  subst hw0
  exact hstart

set_option maxRecDepth 100000 in
set_option maxHeartbeats 4000000 in
theorem c_L_sent (l : Launch) (hl0 : l.stackTraces = false) (D : va_G) (sz : Nat) (y : Nat → ClassId) (o : Nat → Nat) (a : Nat → Nat → Nat) (S : Nat → Nat → Int → Int) (tb : Nat → Nat) (st : CSt) (i w : Int) (h9i : -2147483648 ≤ i ∧ i ≤ 2147483647) (h9w : -2147483648 ≤ w ∧ w ≤ 2147483647) (hT : Tie st S) : Met l yL_sent wsL_sent ({ frames := 7, cells := 1, slots := 6, locals := 113 } : Room) (zPe D vwCl (zT y) (wC y o a S tb st) sz [.ref (o 0), .int (iZ i), .int (iZ w)]) (va_Qi (fun (r : Int32) (u : (Nat → Nat → Nat) × (Nat → Nat → Int → Int)) => r = iZ (sntV st i w) ∧ Tie st u.2) (zB D vwCl (zT y) (wC y o a S tb st) sz (fun u : (Nat → Nat → Nat) × (Nat → Nat → Int → Int) => wC y o u.1 u.2 tb st)) (va_A (wC y o a S tb st) sz)) 1 6 (va_A (wC y o a S tb st) sz) := by
  obtain ⟨⟨hR, hI, kp, lp⟩, hsc, hTS, hl, htx⟩ := id hT
  refine z_headH (cc := cL_sent) (maxL := 4) (ret := some .int) (hh := [(0, 6, 7, 15), (0, 6, 12, 30)]) [(0, .ref (o 0)), (1, .int (iZ i)), (2, .int (iZ w))] rfl (Nat.le_of_ble_eq_true rfl) (by decide +kernel) rfl ?_
  intro pp ee ss mm below meth cd mx mb mr mml mo mts mlk hK hsz hA hE hXt
  generalize ([.ref (o 0), .int (iZ i), .int (iZ w)] : List Value).toArray = args at mts ⊢
  obtain ⟨wst, hw0⟩ : ∃ wst, wst = (wC y o a S tb st) := ⟨_, rfl⟩
  replace hE : zE (va_A wst sz) ss ss.heap := by rw [hw0]; exact hE
  replace hA : ∀ q, ss.heap.size ≤ q → va_A wst sz q := by rw [hw0]; exact hA
  obtain ⟨Q, hQ⟩ : ∃ Q, Q = MQ below (va_Qi (fun (r : Int32) (u : (Nat → Nat → Nat) × (Nat → Nat → Int → Int)) => r = iZ (sntV st i w) ∧ Tie st u.2) (zB D vwCl (zT y) wst sz (fun u : (Nat → Nat → Nat) × (Nat → Nat → Int → Int) => wC y o u.1 u.2 tb st)) (va_A wst sz)) args ss 1 6 (va_A wst sz) := ⟨_, rfl⟩
  have hstart : Gz pp l ee ({ frames := 7, cells := 1, slots := 6, locals := 113 } : Room) ss mm args below meth cd 4 0 0 Q (Zw D vwCl (va_A wst sz) ss (wC y o a S tb st)) 0 [(0, .ref (o 0)), (1, .int (iZ i)), (2, .int (iZ w))] [] := by
    refine z_aload_n mx mb dL_sent_0 rfl 0 rfl ?_
    refine z_iload_n mx mb dL_sent_1 rfl 1 rfl ?_
    refine z_iload_n mx mb dL_sent_2 rfl 2 rfl ?_
    rcases thIn_c i (st.1 10) w 1 with ⟨e0, h1, h2⟩ | ⟨e0, h1⟩ | ⟨e0, h1, h2⟩
    · refine z_callI (wa := []) (wc := (wC y o a S tb st)) (wb := []) (As := [.int (iZ i), .int (iZ w)]) (rest := []) ⟨mx, mb, mml, mo, mts⟩ hK hA (fun sz => c_X4_dispatch l D sz y o a S tb st.2.2.2.1 st.2.2.2.2 st.2.2.1 st.1 i w hR hI kp h1 h2) (cwV 2 mts gL_sent_X4_dispatch rfl rfl rfl (by decide +kernel) ⟨Nat.le_of_ble_eq_true rfl, Nat.le_of_ble_eq_true rfl⟩) (List.append_nil _).symm 0 wB_0 rfl rfl rfl rfl (Nat.le_of_ble_eq_true rfl) ⟨Nat.le_of_ble_eq_true rfl, Nat.le_of_ble_eq_true rfl⟩ dL_sent_3 (fun r u hu => ?_)
      rw [List.nil_append, List.append_nil]
      have hr := hu
      have tie2 := hT
      obtain rfl : r = iZ (st.1 (111 + 2 * (st.1 10 - 1 - i) + w)) := hr
      show Gz pp l ee ({ frames := 7, cells := 1, slots := 6, locals := 113 } : Room) ss mm args below meth cd 4 0 0 Q (Zw D vwCl (va_A wst sz) ss (wC y o a S tb st)) 6 [(0, .ref (o 0)), (1, .int (iZ i)), (2, .int (iZ w))] [.int (iZ (st.1 (111 + 2 * (st.1 10 - 1 - i) + w)))]
      rw [hQ]
      refine z_widen (k1 := 1) (n1 := 6) (by decide) (by decide) ?_
      exact z_retI mx mb mr mlk hK (a, S) ⟨by rw [(show sntV st i w = st.1 (111 + 2 * (st.1 10 - 1 - i) + w) from v3_0 e0)], by exact tie2⟩ (by rfl) dL_sent_6
    · refine z_callXc (wa := []) (wc := (wC y o a S tb st)) (wb := []) (As := [.int (iZ i), .int (iZ w)]) (rest := []) ⟨mx, mb, mml, mo, mts⟩ hK hA hE (fun sz => c_X4_dispatch_t1 l hl0 D sz y o a S tb st.2.2.2.1 st.2.2.2.2 st.2.2.1 st.1 i w hR hI kp h9i h9w h1) (cwV 2 mts gL_sent_X4_dispatch rfl rfl rfl (by decide +kernel) ⟨Nat.le_of_ble_eq_true rfl, Nat.le_of_ble_eq_true rfl⟩) (List.append_nil _).symm 0 wB_0 rfl rfl rfl rfl (Nat.le_of_ble_eq_true rfl) ⟨Nat.le_of_ble_eq_true rfl, Nat.le_of_ble_eq_true rfl⟩ dL_sent_3 [] (tE (0, 6, 7, 15)) [tE (0, 6, 12, 30)] (by rw [hXt]; rfl) (fun z hz => nomatch hz) (by decide) (by decide) (mts _ (List.mem_of_getElem? (i := 1) rfl)) (eW_use (List.mem_of_getElem? (i := 3) rfl) (hE.2.2.2.1 _ (List.mem_of_getElem? (i := 3) rfl))) (tgt := 7) rfl (fun q9 => ?_)
      show Gz pp l ee ({ frames := 7, cells := 1, slots := 6, locals := 113 } : Room) ss mm args below meth cd 4 1 6 Q (Zw D vwCl (va_A wst sz) ss (wC y o a S tb st)) 7 [(0, .ref (o 0)), (1, .int (iZ i)), (2, .int (iZ w))] [.ref q9]
      refine z_astore_n mx mb dL_sent_7 rfl (by decide) [(3, .ref q9), (0, .ref (o 0)), (1, .int (iZ i)), (2, .int (iZ w))] rfl ?_
      refine z_sipush mx mb dL_sent_8 (by decide +kernel) ?_
      rw [hQ]
      exact z_retI mx mb mr mlk hK (a, S) ⟨by rw [(show sntV st i w = -3001 from v3_1 e0)], by exact hT⟩ (by rfl) dL_sent_11
    · refine z_callXc (wa := []) (wc := (wC y o a S tb st)) (wb := []) (As := [.int (iZ i), .int (iZ w)]) (rest := []) ⟨mx, mb, mml, mo, mts⟩ hK hA hE (fun sz => c_X4_dispatch_t2 l hl0 D sz y o a S tb st.2.2.2.1 st.2.2.2.2 st.2.2.1 st.1 i w hR hI kp h9w h1 h2) (cwV 2 mts gL_sent_X4_dispatch rfl rfl rfl (by decide +kernel) ⟨Nat.le_of_ble_eq_true rfl, Nat.le_of_ble_eq_true rfl⟩) (List.append_nil _).symm 0 wB_0 rfl rfl rfl rfl (Nat.le_of_ble_eq_true rfl) ⟨Nat.le_of_ble_eq_true rfl, Nat.le_of_ble_eq_true rfl⟩ dL_sent_3 [tE (0, 6, 7, 15)] (tE (0, 6, 12, 30)) [] (by rw [hXt]; rfl) (fun z hz => by obtain rfl := List.mem_singleton.mp hz; exact Or.inr ⟨by decide, _, (mts _ (List.mem_of_getElem? (i := 1) rfl)), hE.2.2.1.2.2.2.1⟩) (by decide) (by decide) (mts _ (List.mem_of_getElem? (i := 2) rfl)) (eW_use (List.mem_of_getElem? (i := 5) rfl) (hE.2.2.2.1 _ (List.mem_of_getElem? (i := 5) rfl))) (tgt := 12) rfl (fun q9 => ?_)
      show Gz pp l ee ({ frames := 7, cells := 1, slots := 6, locals := 113 } : Room) ss mm args below meth cd 4 1 6 Q (Zw D vwCl (va_A wst sz) ss (wC y o a S tb st)) 12 [(0, .ref (o 0)), (1, .int (iZ i)), (2, .int (iZ w))] [.ref q9]
      refine z_astore_n mx mb dL_sent_12 rfl (by decide) [(3, .ref q9), (0, .ref (o 0)), (1, .int (iZ i)), (2, .int (iZ w))] rfl ?_
      refine z_sipush mx mb dL_sent_13 (by decide +kernel) ?_
      rw [hQ]
      exact z_retI mx mb mr mlk hK (a, S) ⟨by rw [(show sntV st i w = -3002 from v3_2 e0)], by exact hT⟩ (by rfl) dL_sent_16
  subst hQ
  subst hw0
  exact hstart

set_option maxRecDepth 100000 in
set_option maxHeartbeats 4000000 in
theorem c_L_reason (l : Launch) (hl0 : l.stackTraces = false) (D : va_G) (sz : Nat) (y : Nat → ClassId) (o : Nat → Nat) (a : Nat → Nat → Nat) (S : Nat → Nat → Int → Int) (tb : Nat → Nat) (st : CSt) (t : Int) (h9t : -2147483648 ≤ t ∧ t ≤ 2147483647) (hT : Tie st S) : Met l yL_reason wsL_reason ({ frames := 8, cells := 1, slots := 6, locals := 132 } : Room) (zPe D vwCl (zT y) (wC y o a S tb st) sz [.ref (o 0), .int (iZ t)]) (va_Qi (fun (r : Int32) (u : (Nat → Nat → Nat) × (Nat → Nat → Int → Int)) => r = iZ (whyV st t) ∧ Tie st u.2) (zB D vwCl (zT y) (wC y o a S tb st) sz (fun u : (Nat → Nat → Nat) × (Nat → Nat → Int → Int) => wC y o u.1 u.2 tb st)) (va_A (wC y o a S tb st) sz)) 1 6 (va_A (wC y o a S tb st) sz) := by
  obtain ⟨⟨hR, hI, kp, lp⟩, hsc, hTS, hl, htx⟩ := id hT
  refine z_headH (cc := cL_reason) (maxL := 3) (ret := some .int) (hh := [(0, 5, 6, 15)]) [(0, .ref (o 0)), (1, .int (iZ t))] rfl (Nat.le_of_ble_eq_true rfl) (by decide +kernel) rfl ?_
  intro pp ee ss mm below meth cd mx mb mr mml mo mts mlk hK hsz hA hE hXt
  generalize ([.ref (o 0), .int (iZ t)] : List Value).toArray = args at mts ⊢
  obtain ⟨wst, hw0⟩ : ∃ wst, wst = (wC y o a S tb st) := ⟨_, rfl⟩
  replace hE : zE (va_A wst sz) ss ss.heap := by rw [hw0]; exact hE
  replace hA : ∀ q, ss.heap.size ≤ q → va_A wst sz q := by rw [hw0]; exact hA
  obtain ⟨Q, hQ⟩ : ∃ Q, Q = MQ below (va_Qi (fun (r : Int32) (u : (Nat → Nat → Nat) × (Nat → Nat → Int → Int)) => r = iZ (whyV st t) ∧ Tie st u.2) (zB D vwCl (zT y) wst sz (fun u : (Nat → Nat → Nat) × (Nat → Nat → Int → Int) => wC y o u.1 u.2 tb st)) (va_A wst sz)) args ss 1 6 (va_A wst sz) := ⟨_, rfl⟩
  have hstart : Gz pp l ee ({ frames := 8, cells := 1, slots := 6, locals := 132 } : Room) ss mm args below meth cd 3 0 0 Q (Zw D vwCl (va_A wst sz) ss (wC y o a S tb st)) 0 [(0, .ref (o 0)), (1, .int (iZ t))] [] := by
    refine z_aload_n mx mb dL_reason_0 rfl 0 rfl ?_
    refine z_iload_n mx mb dL_reason_1 rfl 1 rfl ?_
    rcases thOne_c t (st.1 2) with ⟨e0, h1⟩ | ⟨e0, h1⟩
    · refine z_callI (wa := []) (wc := (wC y o a S tb st)) (wb := []) (As := [.int (iZ t)]) (rest := []) ⟨mx, mb, mml, mo, mts⟩ hK hA (fun sz => c_X4_why l D sz y o a S tb st.2.2.2.1 st.2.2.2.2 st.2.2.1 st.1 t hR hI kp h1) (cwV 1 mts gL_reason_X4_why rfl rfl rfl (by decide +kernel) ⟨Nat.le_of_ble_eq_true rfl, Nat.le_of_ble_eq_true rfl⟩) (List.append_nil _).symm 0 wB_0 rfl rfl rfl rfl (Nat.le_of_ble_eq_true rfl) ⟨Nat.le_of_ble_eq_true rfl, Nat.le_of_ble_eq_true rfl⟩ dL_reason_2 (fun r u hu => ?_)
      rw [List.nil_append, List.append_nil]
      have hr := hu
      have tie2 := hT
      obtain rfl : r = iZ (whyOf st.1 t) := hr
      show Gz pp l ee ({ frames := 8, cells := 1, slots := 6, locals := 132 } : Room) ss mm args below meth cd 3 0 0 Q (Zw D vwCl (va_A wst sz) ss (wC y o a S tb st)) 5 [(0, .ref (o 0)), (1, .int (iZ t))] [.int (iZ (whyOf st.1 t))]
      rw [hQ]
      refine z_widen (k1 := 1) (n1 := 6) (by decide) (by decide) ?_
      exact z_retI mx mb mr mlk hK (a, S) ⟨by rw [(show whyV st t = whyOf st.1 t from v3_0 e0)], by exact tie2⟩ (by rfl) dL_reason_5
    · refine z_callXc (wa := []) (wc := (wC y o a S tb st)) (wb := []) (As := [.int (iZ t)]) (rest := []) ⟨mx, mb, mml, mo, mts⟩ hK hA hE (fun sz => c_X4_why_t1 l hl0 D sz y o a S tb st.2.2.2.1 st.2.2.2.2 st.2.2.1 st.1 t hR hI kp h9t h1) (cwV 1 mts gL_reason_X4_why rfl rfl rfl (by decide +kernel) ⟨Nat.le_of_ble_eq_true rfl, Nat.le_of_ble_eq_true rfl⟩) (List.append_nil _).symm 0 wB_0 rfl rfl rfl rfl (Nat.le_of_ble_eq_true rfl) ⟨Nat.le_of_ble_eq_true rfl, Nat.le_of_ble_eq_true rfl⟩ dL_reason_2 [] (tE (0, 5, 6, 15)) [] (by rw [hXt]; rfl) (fun z hz => nomatch hz) (by decide) (by decide) (mts _ (List.mem_of_getElem? (i := 1) rfl)) (eW_use (List.mem_of_getElem? (i := 3) rfl) (hE.2.2.2.1 _ (List.mem_of_getElem? (i := 3) rfl))) (tgt := 6) rfl (fun q9 => ?_)
      show Gz pp l ee ({ frames := 8, cells := 1, slots := 6, locals := 132 } : Room) ss mm args below meth cd 3 1 6 Q (Zw D vwCl (va_A wst sz) ss (wC y o a S tb st)) 6 [(0, .ref (o 0)), (1, .int (iZ t))] [.ref q9]
      refine z_astore_n mx mb dL_reason_6 rfl (by decide) [(2, .ref q9), (0, .ref (o 0)), (1, .int (iZ t))] rfl ?_
      refine z_sipush mx mb dL_reason_7 (by decide +kernel) ?_
      rw [hQ]
      exact z_retI mx mb mr mlk hK (a, S) ⟨by rw [(show whyV st t = -3001 from v3_1 e0)], by exact hT⟩ (by rfl) dL_reason_10
  subst hQ
  subst hw0
  exact hstart

set_option maxRecDepth 100000 in
set_option maxHeartbeats 4000000 in
theorem c_L_toStation (l : Launch) (hl0 : l.stackTraces = false) (D : va_G) (sz : Nat) (y : Nat → ClassId) (o : Nat → Nat) (a : Nat → Nat → Nat) (S : Nat → Nat → Int → Int) (tb : Nat → Nat) (st : CSt) (t : Int) (h9t : -2147483648 ≤ t ∧ t ≤ 2147483647) (hT : Tie st S) : Met l yL_toStation wsL_toStation ({ frames := 8, cells := 1, slots := 6, locals := 134 } : Room) (zPe D vwCl (zT y) (wC y o a S tb st) sz [.ref (o 0), .int (iZ t)]) (va_Qi (fun (r : Int32) (u : (Nat → Nat → Nat) × (Nat → Nat → Int → Int)) => r = iZ (tosV st t) ∧ Tie st u.2) (zB D vwCl (zT y) (wC y o a S tb st) sz (fun u : (Nat → Nat → Nat) × (Nat → Nat → Int → Int) => wC y o u.1 u.2 tb st)) (va_A (wC y o a S tb st) sz)) 1 6 (va_A (wC y o a S tb st) sz) := by
  obtain ⟨⟨hR, hI, kp, lp⟩, hsc, hTS, hl, htx⟩ := id hT
  refine z_headH (cc := cL_toStation) (maxL := 3) (ret := some .int) (hh := [(0, 5, 6, 15)]) [(0, .ref (o 0)), (1, .int (iZ t))] rfl (Nat.le_of_ble_eq_true rfl) (by decide +kernel) rfl ?_
  intro pp ee ss mm below meth cd mx mb mr mml mo mts mlk hK hsz hA hE hXt
  generalize ([.ref (o 0), .int (iZ t)] : List Value).toArray = args at mts ⊢
  obtain ⟨wst, hw0⟩ : ∃ wst, wst = (wC y o a S tb st) := ⟨_, rfl⟩
  replace hE : zE (va_A wst sz) ss ss.heap := by rw [hw0]; exact hE
  replace hA : ∀ q, ss.heap.size ≤ q → va_A wst sz q := by rw [hw0]; exact hA
  obtain ⟨Q, hQ⟩ : ∃ Q, Q = MQ below (va_Qi (fun (r : Int32) (u : (Nat → Nat → Nat) × (Nat → Nat → Int → Int)) => r = iZ (tosV st t) ∧ Tie st u.2) (zB D vwCl (zT y) wst sz (fun u : (Nat → Nat → Nat) × (Nat → Nat → Int → Int) => wC y o u.1 u.2 tb st)) (va_A wst sz)) args ss 1 6 (va_A wst sz) := ⟨_, rfl⟩
  have hstart : Gz pp l ee ({ frames := 8, cells := 1, slots := 6, locals := 134 } : Room) ss mm args below meth cd 3 0 0 Q (Zw D vwCl (va_A wst sz) ss (wC y o a S tb st)) 0 [(0, .ref (o 0)), (1, .int (iZ t))] [] := by
    refine z_aload_n mx mb dL_toStation_0 rfl 0 rfl ?_
    refine z_iload_n mx mb dL_toStation_1 rfl 1 rfl ?_
    rcases thOne_c t (st.1 2) with ⟨e0, h1⟩ | ⟨e0, h1⟩
    · refine z_callI (wa := []) (wc := (wC y o a S tb st)) (wb := []) (As := [.int (iZ t)]) (rest := []) ⟨mx, mb, mml, mo, mts⟩ hK hA (fun sz => c_X4_ticksToStation l D sz y o a S tb st.2.2.2.1 st.2.2.2.2 st.2.2.1 st.1 t hR hI kp h1) (cwV 1 mts gL_toStation_X4_ticksToStation rfl rfl rfl (by decide +kernel) ⟨Nat.le_of_ble_eq_true rfl, Nat.le_of_ble_eq_true rfl⟩) (List.append_nil _).symm 0 wB_0 rfl rfl rfl rfl (Nat.le_of_ble_eq_true rfl) ⟨Nat.le_of_ble_eq_true rfl, Nat.le_of_ble_eq_true rfl⟩ dL_toStation_2 (fun r u hu => ?_)
      rw [List.nil_append, List.append_nil]
      obtain ⟨hr, v0⟩ := hu
      have tie2 : Tie st u := tie_trial hT v0
      obtain rfl : r = iZ (toStation st.1 t) := hr
      show Gz pp l ee ({ frames := 8, cells := 1, slots := 6, locals := 134 } : Room) ss mm args below meth cd 3 0 0 Q (Zw D vwCl (va_A wst sz) ss (wC y o a u tb st)) 5 [(0, .ref (o 0)), (1, .int (iZ t))] [.int (iZ (toStation st.1 t))]
      rw [hQ]
      refine z_widen (k1 := 1) (n1 := 6) (by decide) (by decide) ?_
      exact z_retI mx mb mr mlk hK (a, u) ⟨by rw [(show tosV st t = toStation st.1 t from v3_0 e0)], by exact tie2⟩ (by rfl) dL_toStation_5
    · refine z_callXc (wa := []) (wc := (wC y o a S tb st)) (wb := []) (As := [.int (iZ t)]) (rest := []) ⟨mx, mb, mml, mo, mts⟩ hK hA hE (fun sz => c_X4_ticksToStation_t1 l hl0 D sz y o a S tb st.2.2.2.1 st.2.2.2.2 st.2.2.1 st.1 t hR hI kp h9t h1) (cwV 1 mts gL_toStation_X4_ticksToStation rfl rfl rfl (by decide +kernel) ⟨Nat.le_of_ble_eq_true rfl, Nat.le_of_ble_eq_true rfl⟩) (List.append_nil _).symm 0 wB_0 rfl rfl rfl rfl (Nat.le_of_ble_eq_true rfl) ⟨Nat.le_of_ble_eq_true rfl, Nat.le_of_ble_eq_true rfl⟩ dL_toStation_2 [] (tE (0, 5, 6, 15)) [] (by rw [hXt]; rfl) (fun z hz => nomatch hz) (by decide) (by decide) (mts _ (List.mem_of_getElem? (i := 1) rfl)) (eW_use (List.mem_of_getElem? (i := 3) rfl) (hE.2.2.2.1 _ (List.mem_of_getElem? (i := 3) rfl))) (tgt := 6) rfl (fun q9 => ?_)
      show Gz pp l ee ({ frames := 8, cells := 1, slots := 6, locals := 134 } : Room) ss mm args below meth cd 3 1 6 Q (Zw D vwCl (va_A wst sz) ss (wC y o a S tb st)) 6 [(0, .ref (o 0)), (1, .int (iZ t))] [.ref q9]
      refine z_astore_n mx mb dL_toStation_6 rfl (by decide) [(2, .ref q9), (0, .ref (o 0)), (1, .int (iZ t))] rfl ?_
      refine z_sipush mx mb dL_toStation_7 (by decide +kernel) ?_
      rw [hQ]
      exact z_retI mx mb mr mlk hK (a, S) ⟨by rw [(show tosV st t = -3001 from v3_1 e0)], by exact hT⟩ (by rfl) dL_toStation_10
  subst hQ
  subst hw0
  exact hstart

set_option maxRecDepth 100000 in
set_option maxHeartbeats 4000000 in
theorem c_L_sentWith (l : Launch) (hl0 : l.stackTraces = false) (D : va_G) (sz : Nat) (y : Nat → ClassId) (o : Nat → Nat) (a : Nat → Nat → Nat) (S : Nat → Nat → Int → Int) (tb : Nat → Nat) (st : CSt) (gp : Int) (h9gp : -2147483648 ≤ gp ∧ gp ≤ 2147483647) (hT : Tie st S) : Met l yL_sentWith wsL_sentWith ({ frames := 7, cells := 1, slots := 6, locals := 132 } : Room) (zPe D vwCl (zT y) (wC y o a S tb st) sz [.ref (o 0), .int (iZ gp)]) (va_Qi (fun (r : Int32) (u : (Nat → Nat → Nat) × (Nat → Nat → Int → Int)) => r = iZ (swtV st gp) ∧ Tie st u.2) (zB D vwCl (zT y) (wC y o a S tb st) sz (fun u : (Nat → Nat → Nat) × (Nat → Nat → Int → Int) => wC y o u.1 u.2 tb st)) (va_A (wC y o a S tb st) sz)) 1 6 (va_A (wC y o a S tb st) sz) := by
  obtain ⟨⟨hR, hI, kp, lp⟩, hsc, hTS, hl, htx⟩ := id hT
  refine z_headH (cc := cL_sentWith) (maxL := 3) (ret := some .int) (hh := [(0, 5, 6, 30)]) [(0, .ref (o 0)), (1, .int (iZ gp))] rfl (Nat.le_of_ble_eq_true rfl) (by decide +kernel) rfl ?_
  intro pp ee ss mm below meth cd mx mb mr mml mo mts mlk hK hsz hA hE hXt
  generalize ([.ref (o 0), .int (iZ gp)] : List Value).toArray = args at mts ⊢
  obtain ⟨wst, hw0⟩ : ∃ wst, wst = (wC y o a S tb st) := ⟨_, rfl⟩
  replace hE : zE (va_A wst sz) ss ss.heap := by rw [hw0]; exact hE
  replace hA : ∀ q, ss.heap.size ≤ q → va_A wst sz q := by rw [hw0]; exact hA
  obtain ⟨Q, hQ⟩ : ∃ Q, Q = MQ below (va_Qi (fun (r : Int32) (u : (Nat → Nat → Nat) × (Nat → Nat → Int → Int)) => r = iZ (swtV st gp) ∧ Tie st u.2) (zB D vwCl (zT y) wst sz (fun u : (Nat → Nat → Nat) × (Nat → Nat → Int → Int) => wC y o u.1 u.2 tb st)) (va_A wst sz)) args ss 1 6 (va_A wst sz) := ⟨_, rfl⟩
  have hstart : Gz pp l ee ({ frames := 7, cells := 1, slots := 6, locals := 132 } : Room) ss mm args below meth cd 3 0 0 Q (Zw D vwCl (va_A wst sz) ss (wC y o a S tb st)) 0 [(0, .ref (o 0)), (1, .int (iZ gp))] [] := by
    refine z_aload_n mx mb dL_sentWith_0 rfl 0 rfl ?_
    refine z_iload_n mx mb dL_sentWith_1 rfl 1 rfl ?_
    rcases thOne_d gp 500 with ⟨e0, h1⟩ | ⟨e0, h1⟩
    · refine z_callIE (wa := []) (wc := (wC y o a S tb st)) (wb := []) (As := [.int (iZ gp)]) (rest := []) ⟨mx, mb, mml, mo, mts⟩ hK hA hE (fun sz => c_X4_dispatchesWith l D sz y o a S tb st.2.2.2.1 st.2.2.2.2 st.2.2.1 st.1 gp hR hI kp h1) (cwV 1 mts gL_sentWith_X4_dispatchesWith rfl rfl rfl (by decide +kernel) ⟨Nat.le_of_ble_eq_true rfl, Nat.le_of_ble_eq_true rfl⟩) (List.append_nil _).symm 0 wB_0 rfl rfl rfl rfl (Nat.le_of_ble_eq_true rfl) ⟨Nat.le_of_ble_eq_true rfl, Nat.le_of_ble_eq_true rfl⟩ dL_sentWith_2 (fun r u hu => ?_)
      rw [List.nil_append, List.append_nil]
      obtain ⟨hr, v0⟩ := hu
      have tie2 : Tie st u := tie_trial hT v0
      obtain rfl : r = iZ (dispWith st.1 gp) := hr
      show Gz pp l ee ({ frames := 7, cells := 1, slots := 6, locals := 132 } : Room) ss mm args below meth cd 3 0 0 Q (Zw D vwCl (va_A wst sz) ss (wC y o a u tb st)) 5 [(0, .ref (o 0)), (1, .int (iZ gp))] [.int (iZ (dispWith st.1 gp))]
      rw [hQ]
      refine z_widen (k1 := 1) (n1 := 6) (by decide) (by decide) ?_
      exact z_retI mx mb mr mlk hK (a, u) ⟨by rw [(show swtV st gp = dispWith st.1 gp from v3_0 e0)], by exact tie2⟩ (by rfl) dL_sentWith_5
    · refine z_callXc (wa := []) (wc := (wC y o a S tb st)) (wb := []) (As := [.int (iZ gp)]) (rest := []) ⟨mx, mb, mml, mo, mts⟩ hK hA hE (fun sz => c_X4_dispatchesWith_t l hl0 D sz y o a S tb st.2.2.2.1 st.2.2.2.2 st.2.2.1 st.1 gp hR hI kp h9gp h1) (cwV 1 mts gL_sentWith_X4_dispatchesWith rfl rfl rfl (by decide +kernel) ⟨Nat.le_of_ble_eq_true rfl, Nat.le_of_ble_eq_true rfl⟩) (List.append_nil _).symm 0 wB_0 rfl rfl rfl rfl (Nat.le_of_ble_eq_true rfl) ⟨Nat.le_of_ble_eq_true rfl, Nat.le_of_ble_eq_true rfl⟩ dL_sentWith_2 [] (tE (0, 5, 6, 30)) [] (by rw [hXt]; rfl) (fun z hz => nomatch hz) (by decide) (by decide) (mts _ (List.mem_of_getElem? (i := 1) rfl)) (eW_use (List.mem_of_getElem? (i := 5) rfl) (hE.2.2.2.1 _ (List.mem_of_getElem? (i := 5) rfl))) (tgt := 6) rfl (fun q9 => ?_)
      show Gz pp l ee ({ frames := 7, cells := 1, slots := 6, locals := 132 } : Room) ss mm args below meth cd 3 1 6 Q (Zw D vwCl (va_A wst sz) ss (wC y o a S tb st)) 6 [(0, .ref (o 0)), (1, .int (iZ gp))] [.ref q9]
      refine z_astore_n mx mb dL_sentWith_6 rfl (by decide) [(2, .ref q9), (0, .ref (o 0)), (1, .int (iZ gp))] rfl ?_
      refine z_sipush mx mb dL_sentWith_7 (by decide +kernel) ?_
      rw [hQ]
      exact z_retI mx mb mr mlk hK (a, S) ⟨by rw [(show swtV st gp = -3002 from v3_1 e0)], by exact hT⟩ (by rfl) dL_sentWith_10
  subst hQ
  subst hw0
  exact hstart

set_option maxRecDepth 100000 in
set_option maxHeartbeats 4000000 in
theorem c_L_least (l : Launch) (hl0 : l.stackTraces = false) (D : va_G) (sz : Nat) (y : Nat → ClassId) (o : Nat → Nat) (a : Nat → Nat → Nat) (S : Nat → Nat → Int → Int) (tb : Nat → Nat) (st : CSt) (c : Int) (h9c : -2147483648 ≤ c ∧ c ≤ 2147483647) (hT : Tie st S) : Met l yL_least wsL_least ({ frames := 8, cells := 1, slots := 6, locals := 132 } : Room) (zPe D vwCl (zT y) (wC y o a S tb st) sz [.ref (o 0), .int (iZ c)]) (va_Qi (fun (r : Int32) (u : (Nat → Nat → Nat) × (Nat → Nat → Int → Int)) => r = iZ (lstV st c) ∧ Tie st u.2) (zB D vwCl (zT y) (wC y o a S tb st) sz (fun u : (Nat → Nat → Nat) × (Nat → Nat → Int → Int) => wC y o u.1 u.2 tb st)) (va_A (wC y o a S tb st) sz)) 1 6 (va_A (wC y o a S tb st) sz) := by
  obtain ⟨⟨hR, hI, kp, lp⟩, hsc, hTS, hl, htx⟩ := id hT
  refine z_headH (cc := cL_least) (maxL := 3) (ret := some .int) (hh := [(0, 5, 6, 15)]) [(0, .ref (o 0)), (1, .int (iZ c))] rfl (Nat.le_of_ble_eq_true rfl) (by decide +kernel) rfl ?_
  intro pp ee ss mm below meth cd mx mb mr mml mo mts mlk hK hsz hA hE hXt
  generalize ([.ref (o 0), .int (iZ c)] : List Value).toArray = args at mts ⊢
  obtain ⟨wst, hw0⟩ : ∃ wst, wst = (wC y o a S tb st) := ⟨_, rfl⟩
  replace hE : zE (va_A wst sz) ss ss.heap := by rw [hw0]; exact hE
  replace hA : ∀ q, ss.heap.size ≤ q → va_A wst sz q := by rw [hw0]; exact hA
  obtain ⟨Q, hQ⟩ : ∃ Q, Q = MQ below (va_Qi (fun (r : Int32) (u : (Nat → Nat → Nat) × (Nat → Nat → Int → Int)) => r = iZ (lstV st c) ∧ Tie st u.2) (zB D vwCl (zT y) wst sz (fun u : (Nat → Nat → Nat) × (Nat → Nat → Int → Int) => wC y o u.1 u.2 tb st)) (va_A wst sz)) args ss 1 6 (va_A wst sz) := ⟨_, rfl⟩
  have hstart : Gz pp l ee ({ frames := 8, cells := 1, slots := 6, locals := 132 } : Room) ss mm args below meth cd 3 0 0 Q (Zw D vwCl (va_A wst sz) ss (wC y o a S tb st)) 0 [(0, .ref (o 0)), (1, .int (iZ c))] [] := by
    refine z_aload_n mx mb dL_least_0 rfl 0 rfl ?_
    refine z_iload_n mx mb dL_least_1 rfl 1 rfl ?_
    rcases thOne_c c (st.1 0) with ⟨e0, h1⟩ | ⟨e0, h1⟩
    · refine z_callI (wa := []) (wc := (wC y o a S tb st)) (wb := []) (As := [.int (iZ c)]) (rest := []) ⟨mx, mb, mml, mo, mts⟩ hK hA (fun sz => c_X4_leastSquare l D sz y o a S tb st.2.2.2.1 st.2.2.2.2 st.2.2.1 st.1 c hR hI kp h1) (cwV 1 mts gL_least_X4_leastSquare rfl rfl rfl (by decide +kernel) ⟨Nat.le_of_ble_eq_true rfl, Nat.le_of_ble_eq_true rfl⟩) (List.append_nil _).symm 0 wB_0 rfl rfl rfl rfl (Nat.le_of_ble_eq_true rfl) ⟨Nat.le_of_ble_eq_true rfl, Nat.le_of_ble_eq_true rfl⟩ dL_least_2 (fun r u hu => ?_)
      rw [List.nil_append, List.append_nil]
      have hr := hu
      have tie2 := hT
      obtain rfl : r = iZ (leastS st.1 c) := hr
      show Gz pp l ee ({ frames := 8, cells := 1, slots := 6, locals := 132 } : Room) ss mm args below meth cd 3 0 0 Q (Zw D vwCl (va_A wst sz) ss (wC y o a S tb st)) 5 [(0, .ref (o 0)), (1, .int (iZ c))] [.int (iZ (leastS st.1 c))]
      rw [hQ]
      refine z_widen (k1 := 1) (n1 := 6) (by decide) (by decide) ?_
      exact z_retI mx mb mr mlk hK (a, S) ⟨by rw [(show lstV st c = leastS st.1 c from v3_0 e0)], by exact tie2⟩ (by rfl) dL_least_5
    · refine z_callXc (wa := []) (wc := (wC y o a S tb st)) (wb := []) (As := [.int (iZ c)]) (rest := []) ⟨mx, mb, mml, mo, mts⟩ hK hA hE (fun sz => c_X4_leastSquare_t1 l hl0 D sz y o a S tb st.2.2.2.1 st.2.2.2.2 st.2.2.1 st.1 c hR hI kp h9c h1) (cwV 1 mts gL_least_X4_leastSquare rfl rfl rfl (by decide +kernel) ⟨Nat.le_of_ble_eq_true rfl, Nat.le_of_ble_eq_true rfl⟩) (List.append_nil _).symm 0 wB_0 rfl rfl rfl rfl (Nat.le_of_ble_eq_true rfl) ⟨Nat.le_of_ble_eq_true rfl, Nat.le_of_ble_eq_true rfl⟩ dL_least_2 [] (tE (0, 5, 6, 15)) [] (by rw [hXt]; rfl) (fun z hz => nomatch hz) (by decide) (by decide) (mts _ (List.mem_of_getElem? (i := 1) rfl)) (eW_use (List.mem_of_getElem? (i := 3) rfl) (hE.2.2.2.1 _ (List.mem_of_getElem? (i := 3) rfl))) (tgt := 6) rfl (fun q9 => ?_)
      show Gz pp l ee ({ frames := 8, cells := 1, slots := 6, locals := 132 } : Room) ss mm args below meth cd 3 1 6 Q (Zw D vwCl (va_A wst sz) ss (wC y o a S tb st)) 6 [(0, .ref (o 0)), (1, .int (iZ c))] [.ref q9]
      refine z_astore_n mx mb dL_least_6 rfl (by decide) [(2, .ref q9), (0, .ref (o 0)), (1, .int (iZ c))] rfl ?_
      refine z_sipush mx mb dL_least_7 (by decide +kernel) ?_
      rw [hQ]
      exact z_retI mx mb mr mlk hK (a, S) ⟨by rw [(show lstV st c = -3001 from v3_1 e0)], by exact hT⟩ (by rfl) dL_least_10
  subst hQ
  subst hw0
  exact hstart

set_option maxRecDepth 100000 in
set_option maxHeartbeats 4000000 in
theorem c_L_typing (l : Launch) (hl0 : l.stackTraces = false) (D : va_G) (sz : Nat) (y : Nat → ClassId) (o : Nat → Nat) (a : Nat → Nat → Nat) (S : Nat → Nat → Int → Int) (tb : Nat → Nat) (st : CSt) (v : Int) (h9v : -2147483648 ≤ v ∧ v ≤ 2147483647) (hT : Tie st S) : Met l yL_typing wsL_typing ({ frames := 7, cells := 1, slots := 6, locals := 111 } : Room) (zPe D vwCl (zT y) (wC y o a S tb st) sz [.ref (o 0), .int (iZ v)]) (va_Qi (fun (r : Int32) (u : (Nat → Nat → Nat) × (Nat → Nat → Int → Int)) => r = iZ (typV st v) ∧ Tie (typS st v) u.2) (zB D vwCl (zT y) (wC y o a S tb st) sz (fun u : (Nat → Nat → Nat) × (Nat → Nat → Int → Int) => wC y o u.1 u.2 tb (typS st v))) (va_A (wC y o a S tb st) sz)) 1 6 (va_A (wC y o a S tb st) sz) := by
  obtain ⟨⟨hR, hI, kp, lp⟩, hsc, hTS, hl, htx⟩ := id hT
  refine z_headH (cc := cL_typing) (maxL := 3) (ret := some .int) (hh := [(0, 5, 6, 30), (0, 5, 11, 17)]) [(0, .ref (o 0)), (1, .int (iZ v))] rfl (Nat.le_of_ble_eq_true rfl) (by decide +kernel) rfl ?_
  intro pp ee ss mm below meth cd mx mb mr mml mo mts mlk hK hsz hA hE hXt
  generalize ([.ref (o 0), .int (iZ v)] : List Value).toArray = args at mts ⊢
  obtain ⟨wst, hw0⟩ : ∃ wst, wst = (wC y o a S tb st) := ⟨_, rfl⟩
  replace hE : zE (va_A wst sz) ss ss.heap := by rw [hw0]; exact hE
  replace hA : ∀ q, ss.heap.size ≤ q → va_A wst sz q := by rw [hw0]; exact hA
  obtain ⟨Q, hQ⟩ : ∃ Q, Q = MQ below (va_Qi (fun (r : Int32) (u : (Nat → Nat → Nat) × (Nat → Nat → Int → Int)) => r = iZ (typV st v) ∧ Tie (typS st v) u.2) (zB D vwCl (zT y) wst sz (fun u : (Nat → Nat → Nat) × (Nat → Nat → Int → Int) => wC y o u.1 u.2 tb (typS st v))) (va_A wst sz)) args ss 1 6 (va_A wst sz) := ⟨_, rfl⟩
  have hstart : Gz pp l ee ({ frames := 7, cells := 1, slots := 6, locals := 111 } : Room) ss mm args below meth cd 3 0 0 Q (Zw D vwCl (va_A wst sz) ss (wC y o a S tb st)) 0 [(0, .ref (o 0)), (1, .int (iZ v))] [] := by
    refine z_aload_n mx mb dL_typing_0 rfl 0 rfl ?_
    refine z_iload_n mx mb dL_typing_1 rfl 1 rfl ?_
    rcases thApp_c v st.2.2.2.2 with ⟨e0, h1, h2⟩ | ⟨e0, h1⟩ | ⟨e0, h1, h2⟩
    · refine z_callI (wa := []) (wc := (wC y o a S tb st)) (wb := []) (As := [.int (iZ v)]) (rest := []) ⟨mx, mb, mml, mo, mts⟩ hK hA (fun sz => c_X4_append l D sz y o a S tb st.2.2.2.1 st.2.2.2.2 st.2.2.1 st.1 v h1 (by omega)) (cwV 1 mts gL_typing_X4_append rfl rfl rfl (by decide +kernel) ⟨Nat.le_of_ble_eq_true rfl, Nat.le_of_ble_eq_true rfl⟩) (List.append_nil _).symm 0 wB_0 rfl rfl rfl rfl (Nat.le_of_ble_eq_true rfl) ⟨Nat.le_of_ble_eq_true rfl, Nat.le_of_ble_eq_true rfl⟩ dL_typing_2 (fun r u hu => ?_)
      rw [List.nil_append, List.append_nil]
      have hr := hu
      have tie2 : Tie (txd st (zu st.2.2.2.1 st.2.2.2.2 v) (st.2.2.2.2 + 1)) S := tie_text hT (by omega) (fun k k0 k1 => by by_cases z : k = st.2.2.2.2; (rw [z, zu_s]; omega); (rw [zu_n z]; exact htx k k0 k1))
      obtain rfl : r = iZ (st.2.2.2.2 + 1) := hr
      show Gz pp l ee ({ frames := 7, cells := 1, slots := 6, locals := 111 } : Room) ss mm args below meth cd 3 0 0 Q (Zw D vwCl (va_A wst sz) ss (wC y o a S tb (txd st (zu st.2.2.2.1 st.2.2.2.2 v) (st.2.2.2.2 + 1)))) 5 [(0, .ref (o 0)), (1, .int (iZ v))] [.int (iZ (st.2.2.2.2 + 1))]
      rw [hQ]
      refine z_widen (k1 := 1) (n1 := 6) (by decide) (by decide) ?_
      exact z_retI mx mb mr mlk hK (a, S) ⟨by rw [(show typV st v = st.2.2.2.2 + 1 from v3_0 e0)], by rw [show (typS st v) = (txd st (zu st.2.2.2.1 st.2.2.2.2 v) (st.2.2.2.2 + 1)) from s3_0 e0]; exact tie2⟩ (by rw [show (typS st v) = (txd st (zu st.2.2.2.1 st.2.2.2.2 v) (st.2.2.2.2 + 1)) from s3_0 e0]) dL_typing_5
    · refine z_callXc (wa := []) (wc := (wC y o a S tb st)) (wb := []) (As := [.int (iZ v)]) (rest := []) ⟨mx, mb, mml, mo, mts⟩ hK hA hE (fun sz => c_X4_append_t1 l hl0 D sz y o a S tb st.2.2.2.1 st.2.2.2.2 st.2.2.1 st.1 v hR hI kp h9v h1) (cwV 1 mts gL_typing_X4_append rfl rfl rfl (by decide +kernel) ⟨Nat.le_of_ble_eq_true rfl, Nat.le_of_ble_eq_true rfl⟩) (List.append_nil _).symm 0 wB_0 rfl rfl rfl rfl (Nat.le_of_ble_eq_true rfl) ⟨Nat.le_of_ble_eq_true rfl, Nat.le_of_ble_eq_true rfl⟩ dL_typing_2 [] (tE (0, 5, 6, 30)) [tE (0, 5, 11, 17)] (by rw [hXt]; rfl) (fun z hz => nomatch hz) (by decide) (by decide) (mts _ (List.mem_of_getElem? (i := 1) rfl)) (eW_use (List.mem_of_getElem? (i := 5) rfl) (hE.2.2.2.1 _ (List.mem_of_getElem? (i := 5) rfl))) (tgt := 6) rfl (fun q9 => ?_)
      show Gz pp l ee ({ frames := 7, cells := 1, slots := 6, locals := 111 } : Room) ss mm args below meth cd 3 1 6 Q (Zw D vwCl (va_A wst sz) ss (wC y o a S tb st)) 6 [(0, .ref (o 0)), (1, .int (iZ v))] [.ref q9]
      refine z_astore_n mx mb dL_typing_6 rfl (by decide) [(2, .ref q9), (0, .ref (o 0)), (1, .int (iZ v))] rfl ?_
      refine z_sipush mx mb dL_typing_7 (by decide +kernel) ?_
      rw [hQ]
      exact z_retI mx mb mr mlk hK (a, S) ⟨by rw [(show typV st v = -3002 from v3_1 e0)], by rw [show (typS st v) = st from s3_n (by omega)]; exact hT⟩ (by rw [show (typS st v) = st from s3_n (by omega)]) dL_typing_10
    · refine z_callXc (wa := []) (wc := (wC y o a S tb st)) (wb := []) (As := [.int (iZ v)]) (rest := []) ⟨mx, mb, mml, mo, mts⟩ hK hA hE (fun sz => c_X4_append_t2 l hl0 D sz y o a S tb st.2.2.2.1 st.2.2.2.2 st.2.2.1 st.1 v hR hI kp h1 h2) (cwV 1 mts gL_typing_X4_append rfl rfl rfl (by decide +kernel) ⟨Nat.le_of_ble_eq_true rfl, Nat.le_of_ble_eq_true rfl⟩) (List.append_nil _).symm 0 wB_0 rfl rfl rfl rfl (Nat.le_of_ble_eq_true rfl) ⟨Nat.le_of_ble_eq_true rfl, Nat.le_of_ble_eq_true rfl⟩ dL_typing_2 [tE (0, 5, 6, 30)] (tE (0, 5, 11, 17)) [] (by rw [hXt]; rfl) (fun z hz => by obtain rfl := List.mem_singleton.mp hz; exact Or.inr ⟨by decide, _, (mts _ (List.mem_of_getElem? (i := 1) rfl)), hE.2.2.1.2.2.2.2⟩) (by decide) (by decide) (mts _ (List.mem_of_getElem? (i := 2) rfl)) (eW_use (List.mem_of_getElem? (i := 4) rfl) (hE.2.2.2.1 _ (List.mem_of_getElem? (i := 4) rfl))) (tgt := 11) rfl (fun q9 => ?_)
      show Gz pp l ee ({ frames := 7, cells := 1, slots := 6, locals := 111 } : Room) ss mm args below meth cd 3 1 6 Q (Zw D vwCl (va_A wst sz) ss (wC y o a S tb st)) 11 [(0, .ref (o 0)), (1, .int (iZ v))] [.ref q9]
      refine z_astore_n mx mb dL_typing_11 rfl (by decide) [(2, .ref q9), (0, .ref (o 0)), (1, .int (iZ v))] rfl ?_
      refine z_sipush mx mb dL_typing_12 (by decide +kernel) ?_
      rw [hQ]
      exact z_retI mx mb mr mlk hK (a, S) ⟨by rw [(show typV st v = -3003 from v3_2 e0)], by rw [show (typS st v) = st from s3_n (by omega)]; exact hT⟩ (by rw [show (typS st v) = st from s3_n (by omega)]) dL_typing_15
  subst hQ
  subst hw0
  exact hstart

set_option maxRecDepth 100000 in
set_option maxHeartbeats 4000000 in
theorem c_L_undoing (l : Launch) (hl0 : l.stackTraces = false) (D : va_G) (sz : Nat) (y : Nat → ClassId) (o : Nat → Nat) (a : Nat → Nat → Nat) (S : Nat → Nat → Int → Int) (tb : Nat → Nat) (st : CSt)  (hT : Tie st S) : Met l yL_undoing wsL_undoing ({ frames := 7, cells := 1, slots := 6, locals := 111 } : Room) (zPe D vwCl (zT y) (wC y o a S tb st) sz [.ref (o 0)]) (va_Qi (fun (r : Int32) (u : (Nat → Nat → Nat) × (Nat → Nat → Int → Int)) => r = iZ (undV st) ∧ Tie (undS st) u.2) (zB D vwCl (zT y) (wC y o a S tb st) sz (fun u : (Nat → Nat → Nat) × (Nat → Nat → Int → Int) => wC y o u.1 u.2 tb (undS st))) (va_A (wC y o a S tb st) sz)) 1 6 (va_A (wC y o a S tb st) sz) := by
  obtain ⟨⟨hR, hI, kp, lp⟩, hsc, hTS, hl, htx⟩ := id hT
  refine z_headH (cc := cL_undoing) (maxL := 2) (ret := some .int) (hh := [(0, 4, 5, 17)]) [(0, .ref (o 0))] rfl (Nat.le_of_ble_eq_true rfl) (by decide +kernel) rfl ?_
  intro pp ee ss mm below meth cd mx mb mr mml mo mts mlk hK hsz hA hE hXt
  generalize ([.ref (o 0)] : List Value).toArray = args at mts ⊢
  obtain ⟨wst, hw0⟩ : ∃ wst, wst = (wC y o a S tb st) := ⟨_, rfl⟩
  replace hE : zE (va_A wst sz) ss ss.heap := by rw [hw0]; exact hE
  replace hA : ∀ q, ss.heap.size ≤ q → va_A wst sz q := by rw [hw0]; exact hA
  obtain ⟨Q, hQ⟩ : ∃ Q, Q = MQ below (va_Qi (fun (r : Int32) (u : (Nat → Nat → Nat) × (Nat → Nat → Int → Int)) => r = iZ (undV st) ∧ Tie (undS st) u.2) (zB D vwCl (zT y) wst sz (fun u : (Nat → Nat → Nat) × (Nat → Nat → Int → Int) => wC y o u.1 u.2 tb (undS st))) (va_A wst sz)) args ss 1 6 (va_A wst sz) := ⟨_, rfl⟩
  have hstart : Gz pp l ee ({ frames := 7, cells := 1, slots := 6, locals := 111 } : Room) ss mm args below meth cd 2 0 0 Q (Zw D vwCl (va_A wst sz) ss (wC y o a S tb st)) 0 [(0, .ref (o 0))] [] := by
    refine z_aload_n mx mb dL_undoing_0 rfl 0 rfl ?_
    rcases thUndo_c st.2.2.1 with ⟨e0, e1⟩ | ⟨e0, e1⟩
    · refine z_callI (wa := []) (wc := (wC y o a S tb st)) (wb := []) (As := []) (rest := []) ⟨mx, mb, mml, mo, mts⟩ hK hA (fun sz => c_X4_undo l D sz y o a S tb st.2.2.2.1 st.2.2.2.2 st.2.2.1 st.1 (st.2.1 (st.2.2.1 - 1).toNat) (by omega) (hTS (st.2.2.1 - 1).toNat (by omega)).1 (Inv_Jy (hTS (st.2.2.1 - 1).toNat (by omega)).2.1).f.1) (cwV 0 mts gL_undoing_X4_undo rfl rfl rfl (by decide +kernel) ⟨Nat.le_of_ble_eq_true rfl, Nat.le_of_ble_eq_true rfl⟩) (List.append_nil _).symm 0 wB_0 rfl rfl rfl rfl (Nat.le_of_ble_eq_true rfl) ⟨Nat.le_of_ble_eq_true rfl, Nat.le_of_ble_eq_true rfl⟩ dL_undoing_1 (fun r u hu => ?_)
      rw [List.nil_append, List.append_nil]
      obtain ⟨hr, v0, v1⟩ := hu
      have tie2 := tie_undo hT (by omega) v0 v1
      obtain rfl : r = iZ (st.2.2.1 - 1) := hr
      show Gz pp l ee ({ frames := 7, cells := 1, slots := 6, locals := 111 } : Room) ss mm args below meth cd 2 0 0 Q (Zw D vwCl (va_A wst sz) ss (wC y o a u tb (undn st))) 4 [(0, .ref (o 0))] [.int (iZ (st.2.2.1 - 1))]
      rw [hQ]
      refine z_widen (k1 := 1) (n1 := 6) (by decide) (by decide) ?_
      exact z_retI mx mb mr mlk hK (a, u) ⟨by rw [(show undV st = st.2.2.1 - 1 from v3_0 e0)], by rw [show (undS st) = (undn st) from s3_0 e0]; exact tie2⟩ (by rw [show (undS st) = (undn st) from s3_0 e0]) dL_undoing_4
    · refine z_callXc (wa := []) (wc := (wC y o a S tb st)) (wb := []) (As := []) (rest := []) ⟨mx, mb, mml, mo, mts⟩ hK hA hE (fun sz => c_X4_undo_t l hl0 D sz y o a S tb st.2.2.2.1 st.2.2.2.2 st.2.2.1 st.1  hR hI kp e1) (cwV 0 mts gL_undoing_X4_undo rfl rfl rfl (by decide +kernel) ⟨Nat.le_of_ble_eq_true rfl, Nat.le_of_ble_eq_true rfl⟩) (List.append_nil _).symm 0 wB_0 rfl rfl rfl rfl (Nat.le_of_ble_eq_true rfl) ⟨Nat.le_of_ble_eq_true rfl, Nat.le_of_ble_eq_true rfl⟩ dL_undoing_1 [] (tE (0, 4, 5, 17)) [] (by rw [hXt]; rfl) (fun z hz => nomatch hz) (by decide) (by decide) (mts _ (List.mem_of_getElem? (i := 1) rfl)) (eW_use (List.mem_of_getElem? (i := 4) rfl) (hE.2.2.2.1 _ (List.mem_of_getElem? (i := 4) rfl))) (tgt := 5) rfl (fun q9 => ?_)
      show Gz pp l ee ({ frames := 7, cells := 1, slots := 6, locals := 111 } : Room) ss mm args below meth cd 2 1 6 Q (Zw D vwCl (va_A wst sz) ss (wC y o a S tb st)) 5 [(0, .ref (o 0))] [.ref q9]
      refine z_astore_n mx mb dL_undoing_5 rfl (by decide) [(1, .ref q9), (0, .ref (o 0))] rfl ?_
      refine z_sipush mx mb dL_undoing_6 (by decide +kernel) ?_
      rw [hQ]
      exact z_retI mx mb mr mlk hK (a, S) ⟨by rw [(show undV st = -3003 from v3_1 e0)], by rw [show (undS st) = st from s3_n (by omega)]; exact hT⟩ (by rw [show (undS st) = st from s3_n (by omega)]) dL_undoing_9
  subst hQ
  subst hw0
  exact hstart
