set_option maxRecDepth 100000 in
set_option maxHeartbeats 4000000 in
theorem c_X4_requireCell_t (l : Launch) (hl0 : l.stackTraces = false) (D : va_G) (sz : Nat) (y : Nat → ClassId) (o : Nat → Nat) (a : Nat → Nat → Nat) (S : Nat → Nat → Int → Int) (tb : Nat → Nat) (x : Int → Int) (ln sc : Int) (f : Int → Int) (c : Int) (hR : Rel f (S 0)) (hI : Inv 100000 f) (kp : Kp f) (h9c : -2147483648 ≤ c ∧ c ≤ 2147483647) (hc : ¬ (0 ≤ c ∧ c < f 0)) : vx_Met l yX4_requireCell wsX4_requireCell ({ frames := 6, cells := 1, slots := 6, locals := 90 } : Room) (zPe D vwCl (zT y) (wBq y o a S tb x ln sc (sav a) p6) sz [.ref (o 0), .int (iZ c)]) zNo (zXc "java/lang/IndexOutOfBoundsException" D vwCl (zT y) (wBq y o a S tb x ln sc (sav a) p6) sz) 1 6 (va_A (wBq y o a S tb x ln sc (sav a) p6) sz) := by
  refine z_headX (cc := cX4_requireCell) (maxL := 2) (ret := none) [(0, .ref (o 0)), (1, .int (iZ c))] rfl (Nat.le_of_ble_eq_true rfl) (by decide +kernel) rfl ?_
  intro pp ee ss mm below meth cd mx mb mr mml mo mts mlk hK hname hsz hA hE hXt
  generalize ([.ref (o 0), .int (iZ c)] : List Value).toArray = args at mts ⊢
  obtain ⟨wst, hw0⟩ : ∃ wst, wst = wBq y o a S tb x ln sc (sav a) p6 := ⟨_, rfl⟩
  replace hE : zE (va_A wst sz) ss ss.heap := by rw [hw0]; exact hE
  replace hA : ∀ q, ss.heap.size ≤ q → va_A wst sz q := by rw [hw0]; exact hA
  obtain ⟨Q, hQ⟩ : ∃ Q, Q = vx_MQ below zNo (zXc "java/lang/IndexOutOfBoundsException" D vwCl (zT y) wst sz) args ss 1 6 (va_A wst sz) := ⟨_, rfl⟩
  have hstart : Gz pp l ee ({ frames := 6, cells := 1, slots := 6, locals := 90 } : Room) ss mm args below meth cd 2 0 0 Q (Zw D vwCl (va_A wst sz) ss (wBq y o a S tb x ln sc (sav a) p6)) 0 [(0, .ref (o 0)), (1, .int (iZ c))] [] := by
    obtain ⟨hW, hN, hT⟩ := (Inv_Jy hI).f
    obtain ⟨w0, w1, w2, w3, w4, w5, w6⟩ := id hW
    obtain ⟨n3, n4, n5, n6, n7, n8, n9, n10⟩ := id hN
    obtain ⟨⟨r0, r1, r2, r3, r4⟩, rc, rb, ⟨s0, s1, s2, s3⟩, rt, rl⟩ := id hR
    refine z_iload_n mx mb dX4_requireCell_0 rfl 1 rfl ?_
    refine z_if_lt (tgt := 18) mx mb (by omega) dX4_requireCell_1 (by decide) (fun c1 => ?_) (fun c1 => ?_)
    · skip
      rw [hQ]
      subst hw0
      exact z_throwSW thrI mx mb hl0 mml mo (mts _ (List.mem_of_getElem? (i := 1) rfl)) (mts _ (List.mem_of_getElem? (i := 2) rfl)) (fun w hw => mts w (List.mem_cons_of_mem _ (List.mem_append_right _ hw))) hK hE (List.mem_of_getElem? (i := 16) rfl) hXt mlk dX4_requireCell_18 dX4_requireCell_21 dX4_requireCell_22 dX4_requireCell_25 dX4_requireCell_28 (Nat.le_of_ble_eq_true rfl) (Nat.le_of_ble_eq_true rfl) (Nat.le_of_ble_eq_true rfl) ⟨Nat.le_refl _, Nat.le_refl _⟩ ⟨Nat.le_refl _, Nat.le_refl _⟩
    · skip
      refine z_iload_n mx mb dX4_requireCell_4 rfl 1 rfl ?_
      refine z_aload_n mx mb dX4_requireCell_5 rfl 0 rfl ?_
      refine z_get (C := RX4) (T := TX4) (N := 5) mx mb mts (in_X4_requireCell_X4) mo hK zgw 0 wB_0 rfl 0 (by decide) (mts _ (List.mem_of_getElem? (i := 3) rfl)) (fun _ h9 => h9) rfl dX4_requireCell_6 ?_
      refine z_get (C := RX0) (T := TX0) (N := 9) mx mb mts (in_X4_requireCell_X0) mo hK zgw (4 + 15 * 0 + 0) ((wB_get 0 0 (by omega) (by omega)).trans wR_0) rfl 0 (by decide) (mts _ (List.mem_of_getElem? (i := 4) rfl)) (fun _ h9 => h9) rfl dX4_requireCell_9 ?_
      refine z_get (C := RX1) (T := TX1) (N := 6) mx mb mts (in_X4_requireCell_X1) mo hK zgw (4 + 15 * 0 + 1) ((wB_get 0 1 (by omega) (by omega)).trans wR_1) rfl 4 (by decide) (mts _ (List.mem_of_getElem? (i := 5) rfl)) (fun _ h9 => h9) rfl dX4_requireCell_12 ?_
      refine z_top (show (S 0) 1 0 = f 0 from by exact r0) ?_
      refine z_icmp_lt (tgt := 29) mx mb (by omega) (by omega) dX4_requireCell_15 (by decide) (fun c15 => ?_) (fun c15 => ?_)
      · skip
        exact absurd c15 (by omega)
      · skip
        rw [hQ]
        subst hw0
        exact z_throwSW thrI mx mb hl0 mml mo (mts _ (List.mem_of_getElem? (i := 1) rfl)) (mts _ (List.mem_of_getElem? (i := 2) rfl)) (fun w hw => mts w (List.mem_cons_of_mem _ (List.mem_append_right _ hw))) hK hE (List.mem_of_getElem? (i := 16) rfl) hXt mlk dX4_requireCell_18 dX4_requireCell_21 dX4_requireCell_22 dX4_requireCell_25 dX4_requireCell_28 (Nat.le_of_ble_eq_true rfl) (Nat.le_of_ble_eq_true rfl) (Nat.le_of_ble_eq_true rfl) ⟨Nat.le_refl _, Nat.le_refl _⟩ ⟨Nat.le_refl _, Nat.le_refl _⟩
  subst hQ
  subst hw0
  exact hstart

set_option maxRecDepth 100000 in
set_option maxHeartbeats 4000000 in
theorem c_X4_requireBlock_t (l : Launch) (hl0 : l.stackTraces = false) (D : va_G) (sz : Nat) (y : Nat → ClassId) (o : Nat → Nat) (a : Nat → Nat → Nat) (S : Nat → Nat → Int → Int) (tb : Nat → Nat) (x : Int → Int) (ln sc : Int) (f : Int → Int) (c : Int) (hR : Rel f (S 0)) (hI : Inv 100000 f) (kp : Kp f) (h9c : -2147483648 ≤ c ∧ c ≤ 2147483647) (hc : ¬ (0 ≤ c ∧ c < f 1)) : vx_Met l yX4_requireBlock wsX4_requireBlock ({ frames := 6, cells := 1, slots := 6, locals := 90 } : Room) (zPe D vwCl (zT y) (wBq y o a S tb x ln sc (sav a) p6) sz [.ref (o 0), .int (iZ c)]) zNo (zXc "java/lang/IndexOutOfBoundsException" D vwCl (zT y) (wBq y o a S tb x ln sc (sav a) p6) sz) 1 6 (va_A (wBq y o a S tb x ln sc (sav a) p6) sz) := by
  refine z_headX (cc := cX4_requireBlock) (maxL := 2) (ret := none) [(0, .ref (o 0)), (1, .int (iZ c))] rfl (Nat.le_of_ble_eq_true rfl) (by decide +kernel) rfl ?_
  intro pp ee ss mm below meth cd mx mb mr mml mo mts mlk hK hname hsz hA hE hXt
  generalize ([.ref (o 0), .int (iZ c)] : List Value).toArray = args at mts ⊢
  obtain ⟨wst, hw0⟩ : ∃ wst, wst = wBq y o a S tb x ln sc (sav a) p6 := ⟨_, rfl⟩
  replace hE : zE (va_A wst sz) ss ss.heap := by rw [hw0]; exact hE
  replace hA : ∀ q, ss.heap.size ≤ q → va_A wst sz q := by rw [hw0]; exact hA
  obtain ⟨Q, hQ⟩ : ∃ Q, Q = vx_MQ below zNo (zXc "java/lang/IndexOutOfBoundsException" D vwCl (zT y) wst sz) args ss 1 6 (va_A wst sz) := ⟨_, rfl⟩
  have hstart : Gz pp l ee ({ frames := 6, cells := 1, slots := 6, locals := 90 } : Room) ss mm args below meth cd 2 0 0 Q (Zw D vwCl (va_A wst sz) ss (wBq y o a S tb x ln sc (sav a) p6)) 0 [(0, .ref (o 0)), (1, .int (iZ c))] [] := by
    obtain ⟨hW, hN, hT⟩ := (Inv_Jy hI).f
    obtain ⟨w0, w1, w2, w3, w4, w5, w6⟩ := id hW
    obtain ⟨n3, n4, n5, n6, n7, n8, n9, n10⟩ := id hN
    obtain ⟨⟨r0, r1, r2, r3, r4⟩, rc, rb, ⟨s0, s1, s2, s3⟩, rt, rl⟩ := id hR
    refine z_iload_n mx mb dX4_requireBlock_0 rfl 1 rfl ?_
    refine z_if_lt (tgt := 18) mx mb (by omega) dX4_requireBlock_1 (by decide) (fun c1 => ?_) (fun c1 => ?_)
    · skip
      rw [hQ]
      subst hw0
      exact z_throwSW thrI mx mb hl0 mml mo (mts _ (List.mem_of_getElem? (i := 1) rfl)) (mts _ (List.mem_of_getElem? (i := 2) rfl)) (fun w hw => mts w (List.mem_cons_of_mem _ (List.mem_append_right _ hw))) hK hE (List.mem_of_getElem? (i := 17) rfl) hXt mlk dX4_requireBlock_18 dX4_requireBlock_21 dX4_requireBlock_22 dX4_requireBlock_25 dX4_requireBlock_28 (Nat.le_of_ble_eq_true rfl) (Nat.le_of_ble_eq_true rfl) (Nat.le_of_ble_eq_true rfl) ⟨Nat.le_refl _, Nat.le_refl _⟩ ⟨Nat.le_refl _, Nat.le_refl _⟩
    · skip
      refine z_iload_n mx mb dX4_requireBlock_4 rfl 1 rfl ?_
      refine z_aload_n mx mb dX4_requireBlock_5 rfl 0 rfl ?_
      refine z_get (C := RX4) (T := TX4) (N := 5) mx mb mts (in_X4_requireBlock_X4) mo hK zgw 0 wB_0 rfl 0 (by decide) (mts _ (List.mem_of_getElem? (i := 3) rfl)) (fun _ h9 => h9) rfl dX4_requireBlock_6 ?_
      refine z_get (C := RX0) (T := TX0) (N := 9) mx mb mts (in_X4_requireBlock_X0) mo hK zgw (4 + 15 * 0 + 0) ((wB_get 0 0 (by omega) (by omega)).trans wR_0) rfl 0 (by decide) (mts _ (List.mem_of_getElem? (i := 4) rfl)) (fun _ h9 => h9) rfl dX4_requireBlock_9 ?_
      refine z_get (C := RX1) (T := TX1) (N := 6) mx mb mts (in_X4_requireBlock_X1) mo hK zgw (4 + 15 * 0 + 1) ((wB_get 0 1 (by omega) (by omega)).trans wR_1) rfl 5 (by decide) (mts _ (List.mem_of_getElem? (i := 5) rfl)) (fun _ h9 => h9) rfl dX4_requireBlock_12 ?_
      refine z_top (show (S 0) 1 1 = f 1 from by exact r1) ?_
      refine z_icmp_lt (tgt := 29) mx mb (by omega) (by omega) dX4_requireBlock_15 (by decide) (fun c15 => ?_) (fun c15 => ?_)
      · skip
        exact absurd c15 (by omega)
      · skip
        rw [hQ]
        subst hw0
        exact z_throwSW thrI mx mb hl0 mml mo (mts _ (List.mem_of_getElem? (i := 1) rfl)) (mts _ (List.mem_of_getElem? (i := 2) rfl)) (fun w hw => mts w (List.mem_cons_of_mem _ (List.mem_append_right _ hw))) hK hE (List.mem_of_getElem? (i := 17) rfl) hXt mlk dX4_requireBlock_18 dX4_requireBlock_21 dX4_requireBlock_22 dX4_requireBlock_25 dX4_requireBlock_28 (Nat.le_of_ble_eq_true rfl) (Nat.le_of_ble_eq_true rfl) (Nat.le_of_ble_eq_true rfl) ⟨Nat.le_refl _, Nat.le_refl _⟩ ⟨Nat.le_refl _, Nat.le_refl _⟩
  subst hQ
  subst hw0
  exact hstart

set_option maxRecDepth 100000 in
set_option maxHeartbeats 4000000 in
theorem c_X4_requireTrain_t (l : Launch) (hl0 : l.stackTraces = false) (D : va_G) (sz : Nat) (y : Nat → ClassId) (o : Nat → Nat) (a : Nat → Nat → Nat) (S : Nat → Nat → Int → Int) (tb : Nat → Nat) (x : Int → Int) (ln sc : Int) (f : Int → Int) (t : Int) (hR : Rel f (S 0)) (hI : Inv 100000 f) (kp : Kp f) (h9t : -2147483648 ≤ t ∧ t ≤ 2147483647) (ht : ¬ (0 ≤ t ∧ t < f 2)) : vx_Met l yX4_requireTrain wsX4_requireTrain ({ frames := 6, cells := 1, slots := 6, locals := 90 } : Room) (zPe D vwCl (zT y) (wBq y o a S tb x ln sc (sav a) p6) sz [.ref (o 0), .int (iZ t)]) zNo (zXc "java/lang/IndexOutOfBoundsException" D vwCl (zT y) (wBq y o a S tb x ln sc (sav a) p6) sz) 1 6 (va_A (wBq y o a S tb x ln sc (sav a) p6) sz) := by
  refine z_headX (cc := cX4_requireTrain) (maxL := 2) (ret := none) [(0, .ref (o 0)), (1, .int (iZ t))] rfl (Nat.le_of_ble_eq_true rfl) (by decide +kernel) rfl ?_
  intro pp ee ss mm below meth cd mx mb mr mml mo mts mlk hK hname hsz hA hE hXt
  generalize ([.ref (o 0), .int (iZ t)] : List Value).toArray = args at mts ⊢
  obtain ⟨wst, hw0⟩ : ∃ wst, wst = wBq y o a S tb x ln sc (sav a) p6 := ⟨_, rfl⟩
  replace hE : zE (va_A wst sz) ss ss.heap := by rw [hw0]; exact hE
  replace hA : ∀ q, ss.heap.size ≤ q → va_A wst sz q := by rw [hw0]; exact hA
  obtain ⟨Q, hQ⟩ : ∃ Q, Q = vx_MQ below zNo (zXc "java/lang/IndexOutOfBoundsException" D vwCl (zT y) wst sz) args ss 1 6 (va_A wst sz) := ⟨_, rfl⟩
  have hstart : Gz pp l ee ({ frames := 6, cells := 1, slots := 6, locals := 90 } : Room) ss mm args below meth cd 2 0 0 Q (Zw D vwCl (va_A wst sz) ss (wBq y o a S tb x ln sc (sav a) p6)) 0 [(0, .ref (o 0)), (1, .int (iZ t))] [] := by
    obtain ⟨hW, hN, hT⟩ := (Inv_Jy hI).f
    obtain ⟨w0, w1, w2, w3, w4, w5, w6⟩ := id hW
    obtain ⟨n3, n4, n5, n6, n7, n8, n9, n10⟩ := id hN
    obtain ⟨⟨r0, r1, r2, r3, r4⟩, rc, rb, ⟨s0, s1, s2, s3⟩, rt, rl⟩ := id hR
    refine z_iload_n mx mb dX4_requireTrain_0 rfl 1 rfl ?_
    refine z_if_lt (tgt := 15) mx mb (by omega) dX4_requireTrain_1 (by decide) (fun c1 => ?_) (fun c1 => ?_)
    · skip
      rw [hQ]
      subst hw0
      exact z_throwSW thrI mx mb hl0 mml mo (mts _ (List.mem_of_getElem? (i := 1) rfl)) (mts _ (List.mem_of_getElem? (i := 2) rfl)) (fun w hw => mts w (List.mem_cons_of_mem _ (List.mem_append_right _ hw))) hK hE (List.mem_of_getElem? (i := 15) rfl) hXt mlk dX4_requireTrain_15 dX4_requireTrain_18 dX4_requireTrain_19 dX4_requireTrain_22 dX4_requireTrain_25 (Nat.le_of_ble_eq_true rfl) (Nat.le_of_ble_eq_true rfl) (Nat.le_of_ble_eq_true rfl) ⟨Nat.le_refl _, Nat.le_refl _⟩ ⟨Nat.le_refl _, Nat.le_refl _⟩
    · skip
      refine z_iload_n mx mb dX4_requireTrain_4 rfl 1 rfl ?_
      refine z_aload_n mx mb dX4_requireTrain_5 rfl 0 rfl ?_
      refine z_get (C := RX4) (T := TX4) (N := 5) mx mb mts (in_X4_requireTrain_X4) mo hK zgw 0 wB_0 rfl 0 (by decide) (mts _ (List.mem_of_getElem? (i := 3) rfl)) (fun _ h9 => h9) rfl dX4_requireTrain_6 ?_
      refine z_get (C := RX0) (T := TX0) (N := 9) mx mb mts (in_X4_requireTrain_X0) mo hK zgw (4 + 15 * 0 + 0) ((wB_get 0 0 (by omega) (by omega)).trans wR_0) rfl 6 (by decide) (mts _ (List.mem_of_getElem? (i := 4) rfl)) (fun _ h9 => h9) rfl dX4_requireTrain_9 ?_
      refine z_top (show (S 0) 0 0 = f 2 from by exact r2) ?_
      refine z_icmp_lt (tgt := 26) mx mb (by omega) (by omega) dX4_requireTrain_12 (by decide) (fun c12 => ?_) (fun c12 => ?_)
      · skip
        exact absurd c12 (by omega)
      · skip
        rw [hQ]
        subst hw0
        exact z_throwSW thrI mx mb hl0 mml mo (mts _ (List.mem_of_getElem? (i := 1) rfl)) (mts _ (List.mem_of_getElem? (i := 2) rfl)) (fun w hw => mts w (List.mem_cons_of_mem _ (List.mem_append_right _ hw))) hK hE (List.mem_of_getElem? (i := 15) rfl) hXt mlk dX4_requireTrain_15 dX4_requireTrain_18 dX4_requireTrain_19 dX4_requireTrain_22 dX4_requireTrain_25 (Nat.le_of_ble_eq_true rfl) (Nat.le_of_ble_eq_true rfl) (Nat.le_of_ble_eq_true rfl) ⟨Nat.le_refl _, Nat.le_refl _⟩ ⟨Nat.le_refl _, Nat.le_refl _⟩
  subst hQ
  subst hw0
  exact hstart

set_option maxRecDepth 100000 in
set_option maxHeartbeats 4000000 in
theorem c_X4_addTrain_t1 (l : Launch) (hl0 : l.stackTraces = false) (D : va_G) (sz : Nat) (y : Nat → ClassId) (o : Nat → Nat) (a : Nat → Nat → Nat) (S : Nat → Nat → Int → Int) (tb : Nat → Nat) (x : Int → Int) (ln sc : Int) (f : Int → Int) (b : Int) (hR : Rel f (S 0)) (hI : Inv 100000 f) (kp : Kp f) (h9b : -2147483648 ≤ b ∧ b ≤ 2147483647) (hc : ¬ (0 ≤ b ∧ b < f 1)) : vx_Met l yX4_addTrain wsX4_addTrain ({ frames := 7, cells := 1, slots := 6, locals := 111 } : Room) (zPe D vwCl (zT y) (wBq y o a S tb x ln sc (sav a) p6) sz [.ref (o 0), .int (iZ b)]) zNo (zXc "java/lang/IndexOutOfBoundsException" D vwCl (zT y) (wBq y o a S tb x ln sc (sav a) p6) sz) 1 6 (va_A (wBq y o a S tb x ln sc (sav a) p6) sz) := by
  refine z_headX (cc := cX4_addTrain) (maxL := 2) (ret := (some .int)) [(0, .ref (o 0)), (1, .int (iZ b))] rfl (Nat.le_of_ble_eq_true rfl) (by decide +kernel) rfl ?_
  intro pp ee ss mm below meth cd mx mb mr mml mo mts mlk hK hname hsz hA hE hXt
  generalize ([.ref (o 0), .int (iZ b)] : List Value).toArray = args at mts ⊢
  obtain ⟨wst, hw0⟩ : ∃ wst, wst = wBq y o a S tb x ln sc (sav a) p6 := ⟨_, rfl⟩
  replace hE : zE (va_A wst sz) ss ss.heap := by rw [hw0]; exact hE
  replace hA : ∀ q, ss.heap.size ≤ q → va_A wst sz q := by rw [hw0]; exact hA
  obtain ⟨Q, hQ⟩ : ∃ Q, Q = vx_MQ below zNo (zXc "java/lang/IndexOutOfBoundsException" D vwCl (zT y) wst sz) args ss 1 6 (va_A wst sz) := ⟨_, rfl⟩
  have hstart : Gz pp l ee ({ frames := 7, cells := 1, slots := 6, locals := 111 } : Room) ss mm args below meth cd 2 0 0 Q (Zw D vwCl (va_A wst sz) ss (wBq y o a S tb x ln sc (sav a) p6)) 0 [(0, .ref (o 0)), (1, .int (iZ b))] [] := by
    obtain ⟨hW, hN, hT⟩ := (Inv_Jy hI).f
    obtain ⟨w0, w1, w2, w3, w4, w5, w6⟩ := id hW
    obtain ⟨n3, n4, n5, n6, n7, n8, n9, n10⟩ := id hN
    obtain ⟨⟨r0, r1, r2, r3, r4⟩, rc, rb, ⟨s0, s1, s2, s3⟩, rt, rl⟩ := id hR
    refine z_aload_n mx mb dX4_addTrain_0 rfl 0 rfl ?_
    refine z_iload_n mx mb dX4_addTrain_1 rfl 1 rfl ?_
    rw [hQ]
    subst hw0
    exact z_callX (As := [.int (iZ b)]) (rest := []) ⟨mx, mb, mml, mo, mts⟩ hK hA hE (fun sz => c_X4_requireBlock_t l hl0 D sz y o a S tb x ln sc f b hR hI kp (by assumption) (by assumption)) (cwV 1 mts gX4_addTrain_X4_requireBlock rfl rfl rfl (by decide +kernel) ⟨Nat.le_of_ble_eq_true rfl, Nat.le_of_ble_eq_true rfl⟩) 0 wB_0 rfl rfl rfl rfl (Nat.le_of_ble_eq_true rfl) ⟨Nat.le_refl _, Nat.le_refl _⟩ ⟨Nat.le_refl _, Nat.le_refl _⟩ dX4_addTrain_2 hXt mlk
  subst hQ
  subst hw0
  exact hstart

set_option maxRecDepth 100000 in
set_option maxHeartbeats 4000000 in
theorem c_X4_addTrain_t2 (l : Launch) (hl0 : l.stackTraces = false) (D : va_G) (sz : Nat) (y : Nat → ClassId) (o : Nat → Nat) (a : Nat → Nat → Nat) (S : Nat → Nat → Int → Int) (tb : Nat → Nat) (x : Int → Int) (ln sc : Int) (f : Int → Int) (b : Int) (hR : Rel f (S 0)) (hI : Inv 100000 f) (kp : Kp f) (hb9 : 0 ≤ b ∧ b < f 1) (hno : f 2 = 4 ∨ ¬ isFree f b = true) : vx_Met l yX4_addTrain wsX4_addTrain ({ frames := 6, cells := 1, slots := 6, locals := 90 } : Room) (zPe D vwCl (zT y) (wBq y o a S tb x ln sc (sav a) p6) sz [.ref (o 0), .int (iZ b)]) zNo (zXc "java/lang/IllegalStateException" D vwCl (zT y) (wBq y o a S tb x ln sc (sav a) p6) sz) 1 6 (va_A (wBq y o a S tb x ln sc (sav a) p6) sz) := by
  refine z_headX (cc := cX4_addTrain) (maxL := 2) (ret := (some .int)) [(0, .ref (o 0)), (1, .int (iZ b))] rfl (Nat.le_of_ble_eq_true rfl) (by decide +kernel) rfl ?_
  intro pp ee ss mm below meth cd mx mb mr mml mo mts mlk hK hname hsz hA hE hXt
  generalize ([.ref (o 0), .int (iZ b)] : List Value).toArray = args at mts ⊢
  obtain ⟨wst, hw0⟩ : ∃ wst, wst = wBq y o a S tb x ln sc (sav a) p6 := ⟨_, rfl⟩
  replace hE : zE (va_A wst sz) ss ss.heap := by rw [hw0]; exact hE
  replace hA : ∀ q, ss.heap.size ≤ q → va_A wst sz q := by rw [hw0]; exact hA
  obtain ⟨Q, hQ⟩ : ∃ Q, Q = vx_MQ below zNo (zXc "java/lang/IllegalStateException" D vwCl (zT y) wst sz) args ss 1 6 (va_A wst sz) := ⟨_, rfl⟩
  have hstart : Gz pp l ee ({ frames := 6, cells := 1, slots := 6, locals := 90 } : Room) ss mm args below meth cd 2 0 0 Q (Zw D vwCl (va_A wst sz) ss (wBq y o a S tb x ln sc (sav a) p6)) 0 [(0, .ref (o 0)), (1, .int (iZ b))] [] := by
    obtain ⟨hW, hN, hT⟩ := (Inv_Jy hI).f
    obtain ⟨w0, w1, w2, w3, w4, w5, w6⟩ := id hW
    obtain ⟨n3, n4, n5, n6, n7, n8, n9, n10⟩ := id hN
    obtain ⟨⟨r0, r1, r2, r3, r4⟩, rc, rb, ⟨s0, s1, s2, s3⟩, rt, rl⟩ := id hR
    obtain ⟨kA, hG, hS9⟩ := id kp
    refine z_aload_n mx mb dX4_addTrain_0 rfl 0 rfl ?_
    refine z_iload_n mx mb dX4_addTrain_1 rfl 1 rfl ?_
    refine z_callV0 (As := [.int (iZ b)]) (rest := []) ⟨mx, mb, mml, mo, mts⟩ hK hA (fun sz => c_X4_requireBlock l D sz y o a S tb x ln sc f b hR hI kp (by omega)) (cwV 1 mts gX4_addTrain_X4_requireBlock rfl rfl rfl (by decide +kernel) ⟨Nat.le_of_ble_eq_true rfl, Nat.le_of_ble_eq_true rfl⟩) 0 wB_0 rfl rfl rfl rfl (Nat.le_of_ble_eq_true rfl) ⟨Nat.zero_le _, Nat.zero_le _⟩ dX4_addTrain_2 (fun u2 hu2 => ?_)
    show Gz pp l ee ({ frames := 6, cells := 1, slots := 6, locals := 90 } : Room) ss mm args below meth cd 2 0 0 Q (Zw D vwCl (va_A wst sz) ss (wBq y o a S tb x ln sc (sav a) p6)) 5 [(0, .ref (o 0)), (1, .int (iZ b))] []
    refine z_aload_n mx mb dX4_addTrain_5 rfl 0 rfl ?_
    refine z_get (C := RX4) (T := TX4) (N := 5) mx mb mts (in_X4_addTrain_X4) mo hK zgw 0 wB_0 rfl 0 (by decide) (mts _ (List.mem_of_getElem? (i := 3) rfl)) (fun _ h9 => h9) rfl dX4_addTrain_6 ?_
    refine z_get (C := RX0) (T := TX0) (N := 9) mx mb mts (in_X4_addTrain_X0) mo hK zgw (4 + 15 * 0 + 0) ((wB_get 0 0 (by omega) (by omega)).trans wR_0) rfl 6 (by decide) (mts _ (List.mem_of_getElem? (i := 4) rfl)) (fun _ h9 => h9) rfl dX4_addTrain_9 ?_
    refine z_top (show (S 0) 0 0 = f 2 from by exact r2) ?_
    refine z_iconst mx mb dX4_addTrain_12 ?_
    refine z_icmp_ne (tgt := 26) mx mb (by omega) (by omega) dX4_addTrain_13 (by decide) (fun c13 => ?_) (fun c13 => ?_)
    · skip
      refine z_aload_n mx mb dX4_addTrain_26 rfl 0 rfl ?_
      refine z_get (C := RX4) (T := TX4) (N := 5) mx mb mts (in_X4_addTrain_X4) mo hK zgw 0 wB_0 rfl 0 (by decide) (mts _ (List.mem_of_getElem? (i := 3) rfl)) (fun _ h9 => h9) rfl dX4_addTrain_27 ?_
      refine z_iload_n mx mb dX4_addTrain_30 rfl 1 rfl ?_
      refine z_callP (As := [.int (iZ b)]) (rest := []) ⟨mx, mb, mml, mo, mts⟩ hK zgw (c_X0_isFree l D y (a 0) (S 0) f b (by omega) (by assumption) (by assumption) (by assumption)) (cwV 1 mts gX4_addTrain_X0_isFree rfl rfl rfl (by decide +kernel) ⟨Nat.le_of_ble_eq_true rfl, Nat.le_of_ble_eq_true rfl⟩) (wB_in 0 (by omega)) (4 + 15 * 0 + 0) ((wB_get 0 0 (by omega) (by omega)).trans wR_0) rfl rfl rfl rfl (Nat.le_of_ble_eq_true rfl) ⟨Nat.zero_le _, Nat.zero_le _⟩ dX4_addTrain_31 ?_
      refine z_if_ne (tgt := 47) mx mb (b2z_rng _) dX4_addTrain_34 (by decide) (fun c34 => ?_) (fun c34 => ?_)
      · skip
        exact absurd (b2z_ne c34) (by rcases hno with z | z; (exact absurd z (by omega)); exact z)
      · skip
        rw [hQ]
        subst hw0
        exact z_throwS thrS mx mb hl0 mml mo (mts _ (List.mem_of_getElem? (i := 1) rfl)) (mts _ (List.mem_of_getElem? (i := 2) rfl)) (fun w hw => mts w (List.mem_cons_of_mem _ (List.mem_append_left _ (List.mem_append_right _ hw)))) hK hE (List.mem_of_getElem? (i := 19) rfl) hXt mlk dX4_addTrain_37 dX4_addTrain_40 dX4_addTrain_41 dX4_addTrain_43 dX4_addTrain_46 (Nat.le_of_ble_eq_true rfl) (Nat.le_of_ble_eq_true rfl) (Nat.le_of_ble_eq_true rfl) ⟨Nat.le_refl _, Nat.le_refl _⟩ ⟨Nat.le_refl _, Nat.le_refl _⟩
    · skip
      rw [hQ]
      subst hw0
      exact z_throwS thrS mx mb hl0 mml mo (mts _ (List.mem_of_getElem? (i := 1) rfl)) (mts _ (List.mem_of_getElem? (i := 2) rfl)) (fun w hw => mts w (List.mem_cons_of_mem _ (List.mem_append_left _ (List.mem_append_right _ hw)))) hK hE (List.mem_of_getElem? (i := 18) rfl) hXt mlk dX4_addTrain_16 dX4_addTrain_19 dX4_addTrain_20 dX4_addTrain_22 dX4_addTrain_25 (Nat.le_of_ble_eq_true rfl) (Nat.le_of_ble_eq_true rfl) (Nat.le_of_ble_eq_true rfl) ⟨Nat.le_refl _, Nat.le_refl _⟩ ⟨Nat.le_refl _, Nat.le_refl _⟩
  subst hQ
  subst hw0
  exact hstart

set_option maxRecDepth 100000 in
set_option maxHeartbeats 4000000 in
theorem c_X4_takeTrain_t (l : Launch) (hl0 : l.stackTraces = false) (D : va_G) (sz : Nat) (y : Nat → ClassId) (o : Nat → Nat) (a : Nat → Nat → Nat) (S : Nat → Nat → Int → Int) (tb : Nat → Nat) (x : Int → Int) (ln sc : Int) (f : Int → Int) (hR : Rel f (S 0)) (hI : Inv 100000 f) (kp : Kp f) (h2 : f 2 = 0) : vx_Met l yX4_takeTrain wsX4_takeTrain ({ frames := 6, cells := 1, slots := 6, locals := 90 } : Room) (zPe D vwCl (zT y) (wBq y o a S tb x ln sc (sav a) p6) sz [.ref (o 0)]) zNo (zXc "java/lang/IllegalStateException" D vwCl (zT y) (wBq y o a S tb x ln sc (sav a) p6) sz) 1 6 (va_A (wBq y o a S tb x ln sc (sav a) p6) sz) := by
  refine z_headX (cc := cX4_takeTrain) (maxL := 1) (ret := (some .int)) [(0, .ref (o 0))] rfl (Nat.le_of_ble_eq_true rfl) (by decide +kernel) rfl ?_
  intro pp ee ss mm below meth cd mx mb mr mml mo mts mlk hK hname hsz hA hE hXt
  generalize ([.ref (o 0)] : List Value).toArray = args at mts ⊢
  obtain ⟨wst, hw0⟩ : ∃ wst, wst = wBq y o a S tb x ln sc (sav a) p6 := ⟨_, rfl⟩
  replace hE : zE (va_A wst sz) ss ss.heap := by rw [hw0]; exact hE
  replace hA : ∀ q, ss.heap.size ≤ q → va_A wst sz q := by rw [hw0]; exact hA
  obtain ⟨Q, hQ⟩ : ∃ Q, Q = vx_MQ below zNo (zXc "java/lang/IllegalStateException" D vwCl (zT y) wst sz) args ss 1 6 (va_A wst sz) := ⟨_, rfl⟩
  have hstart : Gz pp l ee ({ frames := 6, cells := 1, slots := 6, locals := 90 } : Room) ss mm args below meth cd 1 0 0 Q (Zw D vwCl (va_A wst sz) ss (wBq y o a S tb x ln sc (sav a) p6)) 0 [(0, .ref (o 0))] [] := by
    obtain ⟨hW, hN, hT⟩ := (Inv_Jy hI).f
    obtain ⟨w0, w1, w2, w3, w4, w5, w6⟩ := id hW
    obtain ⟨n3, n4, n5, n6, n7, n8, n9, n10⟩ := id hN
    obtain ⟨⟨r0, r1, r2, r3, r4⟩, rc, rb, ⟨s0, s1, s2, s3⟩, rt, rl⟩ := id hR
    refine z_aload_n mx mb dX4_takeTrain_0 rfl 0 rfl ?_
    refine z_get (C := RX4) (T := TX4) (N := 5) mx mb mts (in_X4_takeTrain_X4) mo hK zgw 0 wB_0 rfl 0 (by decide) (mts _ (List.mem_of_getElem? (i := 3) rfl)) (fun _ h9 => h9) rfl dX4_takeTrain_1 ?_
    refine z_get (C := RX0) (T := TX0) (N := 9) mx mb mts (in_X4_takeTrain_X0) mo hK zgw (4 + 15 * 0 + 0) ((wB_get 0 0 (by omega) (by omega)).trans wR_0) rfl 6 (by decide) (mts _ (List.mem_of_getElem? (i := 4) rfl)) (fun _ h9 => h9) rfl dX4_takeTrain_4 ?_
    refine z_top (show (S 0) 0 0 = f 2 from by exact r2) ?_
    refine z_if_ne (tgt := 20) mx mb (by omega) dX4_takeTrain_7 (by decide) (fun c7 => ?_) (fun c7 => ?_)
    · skip
      exact absurd c7 (by omega)
    · skip
      rw [hQ]
      subst hw0
      exact z_throwS thrS mx mb hl0 mml mo (mts _ (List.mem_of_getElem? (i := 1) rfl)) (mts _ (List.mem_of_getElem? (i := 2) rfl)) (fun w hw => mts w (List.mem_cons_of_mem _ (List.mem_append_right _ hw))) hK hE (List.mem_of_getElem? (i := 20) rfl) hXt mlk dX4_takeTrain_10 dX4_takeTrain_13 dX4_takeTrain_14 dX4_takeTrain_16 dX4_takeTrain_19 (Nat.le_of_ble_eq_true rfl) (Nat.le_of_ble_eq_true rfl) (Nat.le_of_ble_eq_true rfl) ⟨Nat.le_refl _, Nat.le_refl _⟩ ⟨Nat.le_refl _, Nat.le_refl _⟩
  subst hQ
  subst hw0
  exact hstart

set_option maxRecDepth 100000 in
set_option maxHeartbeats 4000000 in
theorem c_X4_rescue_t1 (l : Launch) (hl0 : l.stackTraces = false) (D : va_G) (sz : Nat) (y : Nat → ClassId) (o : Nat → Nat) (a : Nat → Nat → Nat) (S : Nat → Nat → Int → Int) (tb : Nat → Nat) (x : Int → Int) (ln sc : Int) (f : Int → Int) (t : Int) (hR : Rel f (S 0)) (hI : Inv 100000 f) (kp : Kp f) (h9t : -2147483648 ≤ t ∧ t ≤ 2147483647) (ht : ¬ (0 ≤ t ∧ t < f 2)) : vx_Met l yX4_rescue wsX4_rescue ({ frames := 7, cells := 1, slots := 6, locals := 111 } : Room) (zPe D vwCl (zT y) (wBq y o a S tb x ln sc (sav a) p6) sz [.ref (o 0), .int (iZ t)]) zNo (zXc "java/lang/IndexOutOfBoundsException" D vwCl (zT y) (wBq y o a S tb x ln sc (sav a) p6) sz) 1 6 (va_A (wBq y o a S tb x ln sc (sav a) p6) sz) := by
  refine z_headX (cc := cX4_rescue) (maxL := 4) (ret := (some .int)) [(0, .ref (o 0)), (1, .int (iZ t))] rfl (Nat.le_of_ble_eq_true rfl) (by decide +kernel) rfl ?_
  intro pp ee ss mm below meth cd mx mb mr mml mo mts mlk hK hname hsz hA hE hXt
  generalize ([.ref (o 0), .int (iZ t)] : List Value).toArray = args at mts ⊢
  obtain ⟨wst, hw0⟩ : ∃ wst, wst = wBq y o a S tb x ln sc (sav a) p6 := ⟨_, rfl⟩
  replace hE : zE (va_A wst sz) ss ss.heap := by rw [hw0]; exact hE
  replace hA : ∀ q, ss.heap.size ≤ q → va_A wst sz q := by rw [hw0]; exact hA
  obtain ⟨Q, hQ⟩ : ∃ Q, Q = vx_MQ below zNo (zXc "java/lang/IndexOutOfBoundsException" D vwCl (zT y) wst sz) args ss 1 6 (va_A wst sz) := ⟨_, rfl⟩
  have hstart : Gz pp l ee ({ frames := 7, cells := 1, slots := 6, locals := 111 } : Room) ss mm args below meth cd 4 0 0 Q (Zw D vwCl (va_A wst sz) ss (wBq y o a S tb x ln sc (sav a) p6)) 0 [(0, .ref (o 0)), (1, .int (iZ t))] [] := by
    obtain ⟨hW, hN, hT⟩ := (Inv_Jy hI).f
    obtain ⟨w0, w1, w2, w3, w4, w5, w6⟩ := id hW
    obtain ⟨n3, n4, n5, n6, n7, n8, n9, n10⟩ := id hN
    obtain ⟨⟨r0, r1, r2, r3, r4⟩, rc, rb, ⟨s0, s1, s2, s3⟩, rt, rl⟩ := id hR
    refine z_aload_n mx mb dX4_rescue_0 rfl 0 rfl ?_
    refine z_iload_n mx mb dX4_rescue_1 rfl 1 rfl ?_
    rw [hQ]
    subst hw0
    exact z_callX (As := [.int (iZ t)]) (rest := []) ⟨mx, mb, mml, mo, mts⟩ hK hA hE (fun sz => c_X4_requireTrain_t l hl0 D sz y o a S tb x ln sc f t hR hI kp (by assumption) (by assumption)) (cwV 1 mts gX4_rescue_X4_requireTrain rfl rfl rfl (by decide +kernel) ⟨Nat.le_of_ble_eq_true rfl, Nat.le_of_ble_eq_true rfl⟩) 0 wB_0 rfl rfl rfl rfl (Nat.le_of_ble_eq_true rfl) ⟨Nat.le_refl _, Nat.le_refl _⟩ ⟨Nat.le_refl _, Nat.le_refl _⟩ dX4_rescue_2 hXt mlk
  subst hQ
  subst hw0
  exact hstart

set_option maxRecDepth 100000 in
set_option maxHeartbeats 4000000 in
theorem c_X4_rescue_t2 (l : Launch) (hl0 : l.stackTraces = false) (D : va_G) (sz : Nat) (y : Nat → ClassId) (o : Nat → Nat) (a : Nat → Nat → Nat) (S : Nat → Nat → Int → Int) (tb : Nat → Nat) (x : Int → Int) (ln sc : Int) (f : Int → Int) (t : Int) (hR : Rel f (S 0)) (hI : Inv 100000 f) (kp : Kp f) (ht : 0 ≤ t ∧ t < f 2) (hm : f (79 + 8 * t + 4) ≠ 2) : vx_Met l yX4_rescue wsX4_rescue ({ frames := 6, cells := 1, slots := 6, locals := 90 } : Room) (zPe D vwCl (zT y) (wBq y o a S tb x ln sc (sav a) p6) sz [.ref (o 0), .int (iZ t)]) zNo (zXc "java/lang/IllegalStateException" D vwCl (zT y) (wBq y o a S tb x ln sc (sav a) p6) sz) 1 6 (va_A (wBq y o a S tb x ln sc (sav a) p6) sz) := by
  refine z_headX (cc := cX4_rescue) (maxL := 4) (ret := (some .int)) [(0, .ref (o 0)), (1, .int (iZ t))] rfl (Nat.le_of_ble_eq_true rfl) (by decide +kernel) rfl ?_
  intro pp ee ss mm below meth cd mx mb mr mml mo mts mlk hK hname hsz hA hE hXt
  generalize ([.ref (o 0), .int (iZ t)] : List Value).toArray = args at mts ⊢
  obtain ⟨wst, hw0⟩ : ∃ wst, wst = wBq y o a S tb x ln sc (sav a) p6 := ⟨_, rfl⟩
  replace hE : zE (va_A wst sz) ss ss.heap := by rw [hw0]; exact hE
  replace hA : ∀ q, ss.heap.size ≤ q → va_A wst sz q := by rw [hw0]; exact hA
  obtain ⟨Q, hQ⟩ : ∃ Q, Q = vx_MQ below zNo (zXc "java/lang/IllegalStateException" D vwCl (zT y) wst sz) args ss 1 6 (va_A wst sz) := ⟨_, rfl⟩
  have hstart : Gz pp l ee ({ frames := 6, cells := 1, slots := 6, locals := 90 } : Room) ss mm args below meth cd 4 0 0 Q (Zw D vwCl (va_A wst sz) ss (wBq y o a S tb x ln sc (sav a) p6)) 0 [(0, .ref (o 0)), (1, .int (iZ t))] [] := by
    obtain ⟨hW, hN, hT⟩ := (Inv_Jy hI).f
    obtain ⟨w0, w1, w2, w3, w4, w5, w6⟩ := id hW
    obtain ⟨n3, n4, n5, n6, n7, n8, n9, n10⟩ := id hN
    obtain ⟨⟨r0, r1, r2, r3, r4⟩, rc, rb, ⟨s0, s1, s2, s3⟩, rt, rl⟩ := id hR
    obtain ⟨kA, hG, hS9⟩ := id kp
    obtain ⟨n, hn⟩ : ∃ n : Nat, t = (n : Int) := ⟨t.toNat, by omega⟩
    have hn4 : (n : Int) < f 2 ∧ n < 4 := by omega
    have tn := hT (n : Int) (by omega) (by omega)
    obtain ⟨T1, T2, T3, T5, T7⟩ := tn
    have hm2 : f (79 + 8 * (n : Int) + 4) ≠ 2 := (by rw [← hn]; exact hm)
    have cm := (w6 (n : Int) (by omega) (by omega)).2
    refine z_aload_n mx mb dX4_rescue_0 rfl 0 rfl ?_
    refine z_iload_n mx mb dX4_rescue_1 rfl 1 rfl ?_
    refine z_callV0 (As := [.int (iZ t)]) (rest := []) ⟨mx, mb, mml, mo, mts⟩ hK hA (fun sz => c_X4_requireTrain l D sz y o a S tb x ln sc f t hR hI kp (by omega)) (cwV 1 mts gX4_rescue_X4_requireTrain rfl rfl rfl (by decide +kernel) ⟨Nat.le_of_ble_eq_true rfl, Nat.le_of_ble_eq_true rfl⟩) 0 wB_0 rfl rfl rfl rfl (Nat.le_of_ble_eq_true rfl) ⟨Nat.zero_le _, Nat.zero_le _⟩ dX4_rescue_2 (fun u2 hu2 => ?_)
    show Gz pp l ee ({ frames := 6, cells := 1, slots := 6, locals := 90 } : Room) ss mm args below meth cd 4 0 0 Q (Zw D vwCl (va_A wst sz) ss (wBq y o a S tb x ln sc (sav a) p6)) 5 [(0, .ref (o 0)), (1, .int (iZ t))] []
    refine z_aload_n mx mb dX4_rescue_5 rfl 0 rfl ?_
    refine z_get (C := RX4) (T := TX4) (N := 5) mx mb mts (in_X4_rescue_X4) mo hK zgw 0 wB_0 rfl 0 (by decide) (mts _ (List.mem_of_getElem? (i := 3) rfl)) (fun _ h9 => h9) rfl dX4_rescue_6 ?_
    refine z_get (C := RX0) (T := TX0) (N := 9) mx mb mts (in_X4_rescue_X0) mo hK zgw (4 + 15 * 0 + 0) ((wB_get 0 0 (by omega) (by omega)).trans wR_0) rfl 1 (by decide) (mts _ (List.mem_of_getElem? (i := 4) rfl)) (fun _ h9 => h9) rfl dX4_rescue_9 ?_
    refine z_iload_n mx mb dX4_rescue_12 rfl 1 rfl ?_
    refine z_top (show t = (n : Int) from by exact hn) ?_
    refine z_aald (i := n) mx mb hK zgw (4 + 15 * 0 + 6) 1 ((wB_get 0 6 (by omega) (by omega)).trans wR_6) rfl (by decide) (by omega) dX4_rescue_13 ?_
    refine z_astore_n mx mb dX4_rescue_14 rfl (by decide) [(2, .ref (a 0 (8 + n))), (0, .ref (o 0)), (1, .int (iZ t))] rfl ?_
    refine z_aload_n mx mb dX4_rescue_15 rfl 0 rfl ?_
    refine z_get (C := RX3) (T := TX3) (N := 8) mx mb mts (in_X4_rescue_X3) mo hK zgw (4 + 15 * 0 + (8 + n)) ((wB_get 0 (8 + n) (by omega) (by omega)).trans (wR_t (by omega))) rfl 4 (by decide) (mts _ (List.mem_of_getElem? (i := 5) rfl)) (fun _ h9 => h9) rfl dX4_rescue_16 ?_
    refine z_top (show (S 0) (8 + n) 4 = f (79 + 8 * (n : Int) + 4) from by exact rt n hn4.1 4 (by omega) (by omega)) ?_
    refine z_iconst mx mb dX4_rescue_19 ?_
    refine z_icmp_eq (tgt := 33) mx mb (by omega) (by omega) dX4_rescue_20 (by decide) (fun c20 => ?_) (fun c20 => ?_)
    · skip
      exact absurd c20 (by omega)
    · skip
      rw [hQ]
      subst hw0
      exact z_throwS thrS mx mb hl0 mml mo (mts _ (List.mem_of_getElem? (i := 1) rfl)) (mts _ (List.mem_of_getElem? (i := 2) rfl)) (fun w hw => mts w (List.mem_cons_of_mem _ (List.mem_append_left _ (List.mem_append_right _ hw)))) hK hE (List.mem_of_getElem? (i := 21) rfl) hXt mlk dX4_rescue_23 dX4_rescue_26 dX4_rescue_27 dX4_rescue_29 dX4_rescue_32 (Nat.le_of_ble_eq_true rfl) (Nat.le_of_ble_eq_true rfl) (Nat.le_of_ble_eq_true rfl) ⟨Nat.le_refl _, Nat.le_refl _⟩ ⟨Nat.le_refl _, Nat.le_refl _⟩
  subst hQ
  subst hw0
  exact hstart

set_option maxRecDepth 100000 in
set_option maxHeartbeats 4000000 in
theorem c_X4_set_t1 (l : Launch) (hl0 : l.stackTraces = false) (D : va_G) (sz : Nat) (y : Nat → ClassId) (o : Nat → Nat) (a : Nat → Nat → Nat) (S : Nat → Nat → Int → Int) (tb : Nat → Nat) (x : Int → Int) (ln sc : Int) (f : Int → Int) (w v : Int) (hR : Rel f (S 0)) (hI : Inv 100000 f) (kp : Kp f) (h9w : -2147483648 ≤ w ∧ w ≤ 2147483647) (h9v : -2147483648 ≤ v ∧ v ≤ 2147483647) (hth : thSet w v = 1) : vx_Met l yX4_set wsX4_set ({ frames := 6, cells := 1, slots := 6, locals := 90 } : Room) (zPe D vwCl (zT y) (wBq y o a S tb x ln sc (sav a) p6) sz [.ref (o 0), .int (iZ w), .int (iZ v)]) zNo (zXc "java/lang/IndexOutOfBoundsException" D vwCl (zT y) (wBq y o a S tb x ln sc (sav a) p6) sz) 1 6 (va_A (wBq y o a S tb x ln sc (sav a) p6) sz) := by
  refine z_headX (cc := cX4_set) (maxL := 4) (ret := (some .int)) [(0, .ref (o 0)), (1, .int (iZ w)), (2, .int (iZ v))] rfl (Nat.le_of_ble_eq_true rfl) (by decide +kernel) rfl ?_
  intro pp ee ss mm below meth cd mx mb mr mml mo mts mlk hK hname hsz hA hE hXt
  generalize ([.ref (o 0), .int (iZ w), .int (iZ v)] : List Value).toArray = args at mts ⊢
  obtain ⟨wst, hw0⟩ : ∃ wst, wst = wBq y o a S tb x ln sc (sav a) p6 := ⟨_, rfl⟩
  replace hE : zE (va_A wst sz) ss ss.heap := by rw [hw0]; exact hE
  replace hA : ∀ q, ss.heap.size ≤ q → va_A wst sz q := by rw [hw0]; exact hA
  obtain ⟨Q, hQ⟩ : ∃ Q, Q = vx_MQ below zNo (zXc "java/lang/IndexOutOfBoundsException" D vwCl (zT y) wst sz) args ss 1 6 (va_A wst sz) := ⟨_, rfl⟩
  have hstart : Gz pp l ee ({ frames := 6, cells := 1, slots := 6, locals := 90 } : Room) ss mm args below meth cd 4 0 0 Q (Zw D vwCl (va_A wst sz) ss (wBq y o a S tb x ln sc (sav a) p6)) 0 [(0, .ref (o 0)), (1, .int (iZ w)), (2, .int (iZ v))] [] := by
    obtain ⟨hW, hN, hT⟩ := (Inv_Jy hI).f
    obtain ⟨w0, w1, w2, w3, w4, w5, w6⟩ := id hW
    obtain ⟨n3, n4, n5, n6, n7, n8, n9, n10⟩ := id hN
    obtain ⟨⟨r0, r1, r2, r3, r4⟩, rc, rb, ⟨s0, s1, s2, s3⟩, rt, rl⟩ := id hR
    have hnw := thSet_1 hth
    refine z_iload_n mx mb dX4_set_0 rfl 1 rfl ?_
    refine z_if_lt (tgt := 9) mx mb (by omega) dX4_set_1 (by decide) (fun c1 => ?_) (fun c1 => ?_)
    · skip
      rw [hQ]
      subst hw0
      exact z_throwS thrI mx mb hl0 mml mo (mts _ (List.mem_of_getElem? (i := 1) rfl)) (mts _ (List.mem_of_getElem? (i := 2) rfl)) (fun w hw => mts w (List.mem_cons_of_mem _ (List.mem_append_left _ (List.mem_append_right _ hw)))) hK hE (List.mem_of_getElem? (i := 0) rfl) hXt mlk dX4_set_9 dX4_set_12 dX4_set_13 dX4_set_15 dX4_set_18 (Nat.le_of_ble_eq_true rfl) (Nat.le_of_ble_eq_true rfl) (Nat.le_of_ble_eq_true rfl) ⟨Nat.le_refl _, Nat.le_refl _⟩ ⟨Nat.le_refl _, Nat.le_refl _⟩
    · skip
      refine z_iload_n mx mb dX4_set_4 rfl 1 rfl ?_
      refine z_iconst mx mb dX4_set_5 ?_
      refine z_icmp_le (tgt := 19) mx mb (by omega) (by omega) dX4_set_6 (by decide) (fun c6 => ?_) (fun c6 => ?_)
      · skip
        exact absurd c6 (by omega)
      · skip
        rw [hQ]
        subst hw0
        exact z_throwS thrI mx mb hl0 mml mo (mts _ (List.mem_of_getElem? (i := 1) rfl)) (mts _ (List.mem_of_getElem? (i := 2) rfl)) (fun w hw => mts w (List.mem_cons_of_mem _ (List.mem_append_left _ (List.mem_append_right _ hw)))) hK hE (List.mem_of_getElem? (i := 0) rfl) hXt mlk dX4_set_9 dX4_set_12 dX4_set_13 dX4_set_15 dX4_set_18 (Nat.le_of_ble_eq_true rfl) (Nat.le_of_ble_eq_true rfl) (Nat.le_of_ble_eq_true rfl) ⟨Nat.le_refl _, Nat.le_refl _⟩ ⟨Nat.le_refl _, Nat.le_refl _⟩
  subst hQ
  subst hw0
  exact hstart

set_option maxRecDepth 100000 in
set_option maxHeartbeats 4000000 in
theorem c_X4_set_t2 (l : Launch) (hl0 : l.stackTraces = false) (D : va_G) (sz : Nat) (y : Nat → ClassId) (o : Nat → Nat) (a : Nat → Nat → Nat) (S : Nat → Nat → Int → Int) (tb : Nat → Nat) (x : Int → Int) (ln sc : Int) (f : Int → Int) (w v : Int) (hR : Rel f (S 0)) (hI : Inv 100000 f) (kp : Kp f) (h9w : -2147483648 ≤ w ∧ w ≤ 2147483647) (h9v : -2147483648 ≤ v ∧ v ≤ 2147483647) (hth : thSet w v = 2) : vx_Met l yX4_set wsX4_set ({ frames := 6, cells := 1, slots := 6, locals := 90 } : Room) (zPe D vwCl (zT y) (wBq y o a S tb x ln sc (sav a) p6) sz [.ref (o 0), .int (iZ w), .int (iZ v)]) zNo (zXc "java/lang/IllegalArgumentException" D vwCl (zT y) (wBq y o a S tb x ln sc (sav a) p6) sz) 1 6 (va_A (wBq y o a S tb x ln sc (sav a) p6) sz) := by
  refine z_headX (cc := cX4_set) (maxL := 4) (ret := (some .int)) [(0, .ref (o 0)), (1, .int (iZ w)), (2, .int (iZ v))] rfl (Nat.le_of_ble_eq_true rfl) (by decide +kernel) rfl ?_
  intro pp ee ss mm below meth cd mx mb mr mml mo mts mlk hK hname hsz hA hE hXt
  generalize ([.ref (o 0), .int (iZ w), .int (iZ v)] : List Value).toArray = args at mts ⊢
  obtain ⟨wst, hw0⟩ : ∃ wst, wst = wBq y o a S tb x ln sc (sav a) p6 := ⟨_, rfl⟩
  replace hE : zE (va_A wst sz) ss ss.heap := by rw [hw0]; exact hE
  replace hA : ∀ q, ss.heap.size ≤ q → va_A wst sz q := by rw [hw0]; exact hA
  obtain ⟨Q, hQ⟩ : ∃ Q, Q = vx_MQ below zNo (zXc "java/lang/IllegalArgumentException" D vwCl (zT y) wst sz) args ss 1 6 (va_A wst sz) := ⟨_, rfl⟩
  have hstart : Gz pp l ee ({ frames := 6, cells := 1, slots := 6, locals := 90 } : Room) ss mm args below meth cd 4 0 0 Q (Zw D vwCl (va_A wst sz) ss (wBq y o a S tb x ln sc (sav a) p6)) 0 [(0, .ref (o 0)), (1, .int (iZ w)), (2, .int (iZ v))] [] := by
    obtain ⟨hW, hN, hT⟩ := (Inv_Jy hI).f
    obtain ⟨w0, w1, w2, w3, w4, w5, w6⟩ := id hW
    obtain ⟨n3, n4, n5, n6, n7, n8, n9, n10⟩ := id hN
    obtain ⟨⟨r0, r1, r2, r3, r4⟩, rc, rb, ⟨s0, s1, s2, s3⟩, rt, rl⟩ := id hR
    obtain ⟨hw9, hnc⟩ := thSet_2 hth
    obtain ⟨sr1, sr2, sr3, sr4⟩ := set_rng hw9
    refine z_iload_n mx mb dX4_set_0 rfl 1 rfl ?_
    refine z_if_lt (tgt := 9) mx mb (by omega) dX4_set_1 (by decide) (fun c1 => ?_) (fun c1 => ?_)
    · skip
      exact absurd c1 (by omega)
    · skip
      refine z_iload_n mx mb dX4_set_4 rfl 1 rfl ?_
      refine z_iconst mx mb dX4_set_5 ?_
      refine z_icmp_le (tgt := 19) mx mb (by omega) (by omega) dX4_set_6 (by decide) (fun c6 => ?_) (fun c6 => ?_)
      · skip
        refine z_iload_n mx mb dX4_set_19 rfl 2 rfl ?_
        refine z_row mx mb hE.2.1.1 mo (mts _ (List.mem_of_getElem? (i := 5) rfl)) (fun _ h9 => h9) dX4_set_20 (fun t20 ht20 => ?_)
        refine z_iload_n mx mb dX4_set_23 rfl 1 rfl ?_
        refine z_rowAt mx mb ht20 (by omega) dX4_set_24 ?_
        refine z_icmp_lt (tgt := 37) mx mb (by omega) (by omega) dX4_set_25 (by decide) (fun c25 => ?_) (fun c25 => ?_)
        · skip
          rw [hQ]
          subst hw0
          exact z_throwS thrA mx mb hl0 mml mo (mts _ (List.mem_of_getElem? (i := 3) rfl)) (mts _ (List.mem_of_getElem? (i := 4) rfl)) (fun w hw => mts w (List.mem_cons_of_mem _ (List.mem_append_right _ hw))) hK hE (List.mem_of_getElem? (i := 1) rfl) hXt mlk dX4_set_37 dX4_set_40 dX4_set_41 dX4_set_43 dX4_set_46 (Nat.le_of_ble_eq_true rfl) (Nat.le_of_ble_eq_true rfl) (Nat.le_of_ble_eq_true rfl) ⟨Nat.le_refl _, Nat.le_refl _⟩ ⟨Nat.le_refl _, Nat.le_refl _⟩
        · skip
          refine z_iload_n mx mb dX4_set_28 rfl 2 rfl ?_
          refine z_row mx mb hE.2.1.2.1 mo (mts _ (List.mem_of_getElem? (i := 6) rfl)) (fun _ h9 => h9) dX4_set_29 (fun t29 ht29 => ?_)
          refine z_iload_n mx mb dX4_set_32 rfl 1 rfl ?_
          refine z_rowAt mx mb ht29 (by omega) dX4_set_33 ?_
          refine z_icmp_le (tgt := 47) mx mb (by omega) (by omega) dX4_set_34 (by decide) (fun c34 => ?_) (fun c34 => ?_)
          · skip
            exact absurd c34 (by omega)
          · skip
            rw [hQ]
            subst hw0
            exact z_throwS thrA mx mb hl0 mml mo (mts _ (List.mem_of_getElem? (i := 3) rfl)) (mts _ (List.mem_of_getElem? (i := 4) rfl)) (fun w hw => mts w (List.mem_cons_of_mem _ (List.mem_append_right _ hw))) hK hE (List.mem_of_getElem? (i := 1) rfl) hXt mlk dX4_set_37 dX4_set_40 dX4_set_41 dX4_set_43 dX4_set_46 (Nat.le_of_ble_eq_true rfl) (Nat.le_of_ble_eq_true rfl) (Nat.le_of_ble_eq_true rfl) ⟨Nat.le_refl _, Nat.le_refl _⟩ ⟨Nat.le_refl _, Nat.le_refl _⟩
      · skip
        exact absurd c6 (by omega)
  subst hQ
  subst hw0
  exact hstart

set_option maxRecDepth 100000 in
set_option maxHeartbeats 4000000 in
theorem c_X4_setHeight_t1 (l : Launch) (hl0 : l.stackTraces = false) (D : va_G) (sz : Nat) (y : Nat → ClassId) (o : Nat → Nat) (a : Nat → Nat → Nat) (S : Nat → Nat → Int → Int) (tb : Nat → Nat) (x : Int → Int) (ln sc : Int) (f : Int → Int) (c z : Int) (hR : Rel f (S 0)) (hI : Inv 100000 f) (kp : Kp f) (h9c : -2147483648 ≤ c ∧ c ≤ 2147483647) (h9z : -2147483648 ≤ z ∧ z ≤ 2147483647) (hc : ¬ (0 ≤ c ∧ c < f 0)) : vx_Met l yX4_setHeight wsX4_setHeight ({ frames := 7, cells := 1, slots := 6, locals := 111 } : Room) (zPe D vwCl (zT y) (wBq y o a S tb x ln sc (sav a) p6) sz [.ref (o 0), .int (iZ c), .int (iZ z)]) zNo (zXc "java/lang/IndexOutOfBoundsException" D vwCl (zT y) (wBq y o a S tb x ln sc (sav a) p6) sz) 1 6 (va_A (wBq y o a S tb x ln sc (sav a) p6) sz) := by
  refine z_headX (cc := cX4_setHeight) (maxL := 4) (ret := (some .int)) [(0, .ref (o 0)), (1, .int (iZ c)), (2, .int (iZ z))] rfl (Nat.le_of_ble_eq_true rfl) (by decide +kernel) rfl ?_
  intro pp ee ss mm below meth cd mx mb mr mml mo mts mlk hK hname hsz hA hE hXt
  generalize ([.ref (o 0), .int (iZ c), .int (iZ z)] : List Value).toArray = args at mts ⊢
  obtain ⟨wst, hw0⟩ : ∃ wst, wst = wBq y o a S tb x ln sc (sav a) p6 := ⟨_, rfl⟩
  replace hE : zE (va_A wst sz) ss ss.heap := by rw [hw0]; exact hE
  replace hA : ∀ q, ss.heap.size ≤ q → va_A wst sz q := by rw [hw0]; exact hA
  obtain ⟨Q, hQ⟩ : ∃ Q, Q = vx_MQ below zNo (zXc "java/lang/IndexOutOfBoundsException" D vwCl (zT y) wst sz) args ss 1 6 (va_A wst sz) := ⟨_, rfl⟩
  have hstart : Gz pp l ee ({ frames := 7, cells := 1, slots := 6, locals := 111 } : Room) ss mm args below meth cd 4 0 0 Q (Zw D vwCl (va_A wst sz) ss (wBq y o a S tb x ln sc (sav a) p6)) 0 [(0, .ref (o 0)), (1, .int (iZ c)), (2, .int (iZ z))] [] := by
    obtain ⟨hW, hN, hT⟩ := (Inv_Jy hI).f
    obtain ⟨w0, w1, w2, w3, w4, w5, w6⟩ := id hW
    obtain ⟨n3, n4, n5, n6, n7, n8, n9, n10⟩ := id hN
    obtain ⟨⟨r0, r1, r2, r3, r4⟩, rc, rb, ⟨s0, s1, s2, s3⟩, rt, rl⟩ := id hR
    refine z_aload_n mx mb dX4_setHeight_0 rfl 0 rfl ?_
    refine z_iload_n mx mb dX4_setHeight_1 rfl 1 rfl ?_
    rw [hQ]
    subst hw0
    exact z_callX (As := [.int (iZ c)]) (rest := []) ⟨mx, mb, mml, mo, mts⟩ hK hA hE (fun sz => c_X4_requireCell_t l hl0 D sz y o a S tb x ln sc f c hR hI kp (by assumption) (by assumption)) (cwV 1 mts gX4_setHeight_X4_requireCell rfl rfl rfl (by decide +kernel) ⟨Nat.le_of_ble_eq_true rfl, Nat.le_of_ble_eq_true rfl⟩) 0 wB_0 rfl rfl rfl rfl (Nat.le_of_ble_eq_true rfl) ⟨Nat.le_refl _, Nat.le_refl _⟩ ⟨Nat.le_refl _, Nat.le_refl _⟩ dX4_setHeight_2 hXt mlk
  subst hQ
  subst hw0
  exact hstart

set_option maxRecDepth 100000 in
set_option maxHeartbeats 4000000 in
theorem c_X4_setHeight_t2 (l : Launch) (hl0 : l.stackTraces = false) (D : va_G) (sz : Nat) (y : Nat → ClassId) (o : Nat → Nat) (a : Nat → Nat → Nat) (S : Nat → Nat → Int → Int) (tb : Nat → Nat) (x : Int → Int) (ln sc : Int) (f : Int → Int) (c z : Int) (hR : Rel f (S 0)) (hI : Inv 100000 f) (kp : Kp f) (h9z : -2147483648 ≤ z ∧ z ≤ 2147483647) (hc : 0 ≤ c ∧ c < f 0) (hz : ¬ (0 ≤ z ∧ z ≤ 9)) : vx_Met l yX4_setHeight wsX4_setHeight ({ frames := 6, cells := 1, slots := 6, locals := 90 } : Room) (zPe D vwCl (zT y) (wBq y o a S tb x ln sc (sav a) p6) sz [.ref (o 0), .int (iZ c), .int (iZ z)]) zNo (zXc "java/lang/IllegalArgumentException" D vwCl (zT y) (wBq y o a S tb x ln sc (sav a) p6) sz) 1 6 (va_A (wBq y o a S tb x ln sc (sav a) p6) sz) := by
  refine z_headX (cc := cX4_setHeight) (maxL := 4) (ret := (some .int)) [(0, .ref (o 0)), (1, .int (iZ c)), (2, .int (iZ z))] rfl (Nat.le_of_ble_eq_true rfl) (by decide +kernel) rfl ?_
  intro pp ee ss mm below meth cd mx mb mr mml mo mts mlk hK hname hsz hA hE hXt
  generalize ([.ref (o 0), .int (iZ c), .int (iZ z)] : List Value).toArray = args at mts ⊢
  obtain ⟨wst, hw0⟩ : ∃ wst, wst = wBq y o a S tb x ln sc (sav a) p6 := ⟨_, rfl⟩
  replace hE : zE (va_A wst sz) ss ss.heap := by rw [hw0]; exact hE
  replace hA : ∀ q, ss.heap.size ≤ q → va_A wst sz q := by rw [hw0]; exact hA
  obtain ⟨Q, hQ⟩ : ∃ Q, Q = vx_MQ below zNo (zXc "java/lang/IllegalArgumentException" D vwCl (zT y) wst sz) args ss 1 6 (va_A wst sz) := ⟨_, rfl⟩
  have hstart : Gz pp l ee ({ frames := 6, cells := 1, slots := 6, locals := 90 } : Room) ss mm args below meth cd 4 0 0 Q (Zw D vwCl (va_A wst sz) ss (wBq y o a S tb x ln sc (sav a) p6)) 0 [(0, .ref (o 0)), (1, .int (iZ c)), (2, .int (iZ z))] [] := by
    obtain ⟨hW, hN, hT⟩ := (Inv_Jy hI).f
    obtain ⟨w0, w1, w2, w3, w4, w5, w6⟩ := id hW
    obtain ⟨n3, n4, n5, n6, n7, n8, n9, n10⟩ := id hN
    obtain ⟨⟨r0, r1, r2, r3, r4⟩, rc, rb, ⟨s0, s1, s2, s3⟩, rt, rl⟩ := id hR
    refine z_aload_n mx mb dX4_setHeight_0 rfl 0 rfl ?_
    refine z_iload_n mx mb dX4_setHeight_1 rfl 1 rfl ?_
    refine z_callV0 (As := [.int (iZ c)]) (rest := []) ⟨mx, mb, mml, mo, mts⟩ hK hA (fun sz => c_X4_requireCell l D sz y o a S tb x ln sc f c hR hI kp (by omega)) (cwV 1 mts gX4_setHeight_X4_requireCell rfl rfl rfl (by decide +kernel) ⟨Nat.le_of_ble_eq_true rfl, Nat.le_of_ble_eq_true rfl⟩) 0 wB_0 rfl rfl rfl rfl (Nat.le_of_ble_eq_true rfl) ⟨Nat.zero_le _, Nat.zero_le _⟩ dX4_setHeight_2 (fun u2 hu2 => ?_)
    show Gz pp l ee ({ frames := 6, cells := 1, slots := 6, locals := 90 } : Room) ss mm args below meth cd 4 0 0 Q (Zw D vwCl (va_A wst sz) ss (wBq y o a S tb x ln sc (sav a) p6)) 5 [(0, .ref (o 0)), (1, .int (iZ c)), (2, .int (iZ z))] []
    refine z_iload_n mx mb dX4_setHeight_5 rfl 2 rfl ?_
    refine z_if_lt (tgt := 15) mx mb (by omega) dX4_setHeight_6 (by decide) (fun c6 => ?_) (fun c6 => ?_)
    · skip
      rw [hQ]
      subst hw0
      exact z_throwS thrA mx mb hl0 mml mo (mts _ (List.mem_of_getElem? (i := 1) rfl)) (mts _ (List.mem_of_getElem? (i := 2) rfl)) (fun w hw => mts w (List.mem_cons_of_mem _ (List.mem_append_left _ (List.mem_append_right _ hw)))) hK hE (List.mem_of_getElem? (i := 2) rfl) hXt mlk dX4_setHeight_15 dX4_setHeight_18 dX4_setHeight_19 dX4_setHeight_21 dX4_setHeight_24 (Nat.le_of_ble_eq_true rfl) (Nat.le_of_ble_eq_true rfl) (Nat.le_of_ble_eq_true rfl) ⟨Nat.le_refl _, Nat.le_refl _⟩ ⟨Nat.le_refl _, Nat.le_refl _⟩
    · skip
      refine z_iload_n mx mb dX4_setHeight_9 rfl 2 rfl ?_
      refine z_bipush mx mb dX4_setHeight_10 (by decide +kernel) ?_
      refine z_icmp_le (tgt := 25) mx mb (by omega) (by omega) dX4_setHeight_12 (by decide) (fun c12 => ?_) (fun c12 => ?_)
      · skip
        exact absurd c12 (by omega)
      · skip
        rw [hQ]
        subst hw0
        exact z_throwS thrA mx mb hl0 mml mo (mts _ (List.mem_of_getElem? (i := 1) rfl)) (mts _ (List.mem_of_getElem? (i := 2) rfl)) (fun w hw => mts w (List.mem_cons_of_mem _ (List.mem_append_left _ (List.mem_append_right _ hw)))) hK hE (List.mem_of_getElem? (i := 2) rfl) hXt mlk dX4_setHeight_15 dX4_setHeight_18 dX4_setHeight_19 dX4_setHeight_21 dX4_setHeight_24 (Nat.le_of_ble_eq_true rfl) (Nat.le_of_ble_eq_true rfl) (Nat.le_of_ble_eq_true rfl) ⟨Nat.le_refl _, Nat.le_refl _⟩ ⟨Nat.le_refl _, Nat.le_refl _⟩
  subst hQ
  subst hw0
  exact hstart

set_option maxRecDepth 100000 in
set_option maxHeartbeats 4000000 in
theorem c_X4_pass_t1 (l : Launch) (hl0 : l.stackTraces = false) (D : va_G) (sz : Nat) (y : Nat → ClassId) (o : Nat → Nat) (a : Nat → Nat → Nat) (S : Nat → Nat → Int → Int) (tb : Nat → Nat) (x : Int → Int) (ln sc : Int) (f : Int → Int) (n : Int) (hR : Rel f (S 0)) (hI : Inv 100000 f) (kp : Kp f) (h9n : -2147483648 ≤ n ∧ n ≤ 2147483647) (hn9 : ¬ (1 ≤ n ∧ n ≤ 500)) : vx_Met l yX4_pass wsX4_pass ({ frames := 6, cells := 1, slots := 6, locals := 90 } : Room) (zPe D vwCl (zT y) (wBq y o a S tb x ln sc (sav a) p6) sz [.ref (o 0), .int (iZ n)]) zNo (zXc "java/lang/IllegalArgumentException" D vwCl (zT y) (wBq y o a S tb x ln sc (sav a) p6) sz) 1 6 (va_A (wBq y o a S tb x ln sc (sav a) p6) sz) := by
  refine z_headX (cc := cX4_pass) (maxL := 4) (ret := (some .int)) [(0, .ref (o 0)), (1, .int (iZ n))] rfl (Nat.le_of_ble_eq_true rfl) (by decide +kernel) rfl ?_
  intro pp ee ss mm below meth cd mx mb mr mml mo mts mlk hK hname hsz hA hE hXt
  generalize ([.ref (o 0), .int (iZ n)] : List Value).toArray = args at mts ⊢
  obtain ⟨wst, hw0⟩ : ∃ wst, wst = wBq y o a S tb x ln sc (sav a) p6 := ⟨_, rfl⟩
  replace hE : zE (va_A wst sz) ss ss.heap := by rw [hw0]; exact hE
  replace hA : ∀ q, ss.heap.size ≤ q → va_A wst sz q := by rw [hw0]; exact hA
  obtain ⟨Q, hQ⟩ : ∃ Q, Q = vx_MQ below zNo (zXc "java/lang/IllegalArgumentException" D vwCl (zT y) wst sz) args ss 1 6 (va_A wst sz) := ⟨_, rfl⟩
  have hstart : Gz pp l ee ({ frames := 6, cells := 1, slots := 6, locals := 90 } : Room) ss mm args below meth cd 4 0 0 Q (Zw D vwCl (va_A wst sz) ss (wBq y o a S tb x ln sc (sav a) p6)) 0 [(0, .ref (o 0)), (1, .int (iZ n))] [] := by
    obtain ⟨hW, hN, hT⟩ := (Inv_Jy hI).f
    obtain ⟨w0, w1, w2, w3, w4, w5, w6⟩ := id hW
    obtain ⟨n3, n4, n5, n6, n7, n8, n9, n10⟩ := id hN
    obtain ⟨⟨r0, r1, r2, r3, r4⟩, rc, rb, ⟨s0, s1, s2, s3⟩, rt, rl⟩ := id hR
    refine z_iload_n mx mb dX4_pass_0 rfl 1 rfl ?_
    refine z_iconst mx mb dX4_pass_1 ?_
    refine z_icmp_lt (tgt := 12) mx mb (by omega) (by omega) dX4_pass_2 (by decide) (fun c2 => ?_) (fun c2 => ?_)
    · skip
      rw [hQ]
      subst hw0
      exact z_throwS thrA mx mb hl0 mml mo (mts _ (List.mem_of_getElem? (i := 1) rfl)) (mts _ (List.mem_of_getElem? (i := 2) rfl)) (fun w hw => mts w (List.mem_cons_of_mem _ (List.mem_append_left _ (List.mem_append_right _ hw)))) hK hE (List.mem_of_getElem? (i := 3) rfl) hXt mlk dX4_pass_12 dX4_pass_15 dX4_pass_16 dX4_pass_18 dX4_pass_21 (Nat.le_of_ble_eq_true rfl) (Nat.le_of_ble_eq_true rfl) (Nat.le_of_ble_eq_true rfl) ⟨Nat.le_refl _, Nat.le_refl _⟩ ⟨Nat.le_refl _, Nat.le_refl _⟩
    · skip
      refine z_iload_n mx mb dX4_pass_5 rfl 1 rfl ?_
      refine z_sipush mx mb dX4_pass_6 (by decide +kernel) ?_
      refine z_icmp_le (tgt := 22) mx mb (by omega) (by omega) dX4_pass_9 (by decide) (fun c9 => ?_) (fun c9 => ?_)
      · skip
        exact absurd c9 (by omega)
      · skip
        rw [hQ]
        subst hw0
        exact z_throwS thrA mx mb hl0 mml mo (mts _ (List.mem_of_getElem? (i := 1) rfl)) (mts _ (List.mem_of_getElem? (i := 2) rfl)) (fun w hw => mts w (List.mem_cons_of_mem _ (List.mem_append_left _ (List.mem_append_right _ hw)))) hK hE (List.mem_of_getElem? (i := 3) rfl) hXt mlk dX4_pass_12 dX4_pass_15 dX4_pass_16 dX4_pass_18 dX4_pass_21 (Nat.le_of_ble_eq_true rfl) (Nat.le_of_ble_eq_true rfl) (Nat.le_of_ble_eq_true rfl) ⟨Nat.le_refl _, Nat.le_refl _⟩ ⟨Nat.le_refl _, Nat.le_refl _⟩
  subst hQ
  subst hw0
  exact hstart

set_option maxRecDepth 100000 in
set_option maxHeartbeats 4000000 in
theorem c_X4_pass_t2 (l : Launch) (hl0 : l.stackTraces = false) (D : va_G) (sz : Nat) (y : Nat → ClassId) (o : Nat → Nat) (a : Nat → Nat → Nat) (S : Nat → Nat → Int → Int) (tb : Nat → Nat) (x : Int → Int) (ln sc : Int) (f : Int → Int) (n : Int) (hR : Rel f (S 0)) (hI : Inv 100000 f) (kp : Kp f) (hn9 : 1 ≤ n ∧ n ≤ 500) (h39 : 100000 < f 3 + n) : vx_Met l yX4_pass wsX4_pass ({ frames := 6, cells := 1, slots := 6, locals := 90 } : Room) (zPe D vwCl (zT y) (wBq y o a S tb x ln sc (sav a) p6) sz [.ref (o 0), .int (iZ n)]) zNo (zXc "java/lang/IllegalStateException" D vwCl (zT y) (wBq y o a S tb x ln sc (sav a) p6) sz) 1 6 (va_A (wBq y o a S tb x ln sc (sav a) p6) sz) := by
  refine z_headX (cc := cX4_pass) (maxL := 4) (ret := (some .int)) [(0, .ref (o 0)), (1, .int (iZ n))] rfl (Nat.le_of_ble_eq_true rfl) (by decide +kernel) rfl ?_
  intro pp ee ss mm below meth cd mx mb mr mml mo mts mlk hK hname hsz hA hE hXt
  generalize ([.ref (o 0), .int (iZ n)] : List Value).toArray = args at mts ⊢
  obtain ⟨wst, hw0⟩ : ∃ wst, wst = wBq y o a S tb x ln sc (sav a) p6 := ⟨_, rfl⟩
  replace hE : zE (va_A wst sz) ss ss.heap := by rw [hw0]; exact hE
  replace hA : ∀ q, ss.heap.size ≤ q → va_A wst sz q := by rw [hw0]; exact hA
  obtain ⟨Q, hQ⟩ : ∃ Q, Q = vx_MQ below zNo (zXc "java/lang/IllegalStateException" D vwCl (zT y) wst sz) args ss 1 6 (va_A wst sz) := ⟨_, rfl⟩
  have hstart : Gz pp l ee ({ frames := 6, cells := 1, slots := 6, locals := 90 } : Room) ss mm args below meth cd 4 0 0 Q (Zw D vwCl (va_A wst sz) ss (wBq y o a S tb x ln sc (sav a) p6)) 0 [(0, .ref (o 0)), (1, .int (iZ n))] [] := by
    obtain ⟨hW, hN, hT⟩ := (Inv_Jy hI).f
    obtain ⟨w0, w1, w2, w3, w4, w5, w6⟩ := id hW
    obtain ⟨n3, n4, n5, n6, n7, n8, n9, n10⟩ := id hN
    obtain ⟨⟨r0, r1, r2, r3, r4⟩, rc, rb, ⟨s0, s1, s2, s3⟩, rt, rl⟩ := id hR
    refine z_iload_n mx mb dX4_pass_0 rfl 1 rfl ?_
    refine z_iconst mx mb dX4_pass_1 ?_
    refine z_icmp_lt (tgt := 12) mx mb (by omega) (by omega) dX4_pass_2 (by decide) (fun c2 => ?_) (fun c2 => ?_)
    · skip
      exact absurd c2 (by omega)
    · skip
      refine z_iload_n mx mb dX4_pass_5 rfl 1 rfl ?_
      refine z_sipush mx mb dX4_pass_6 (by decide +kernel) ?_
      refine z_icmp_le (tgt := 22) mx mb (by omega) (by omega) dX4_pass_9 (by decide) (fun c9 => ?_) (fun c9 => ?_)
      · skip
        refine z_aload_n mx mb dX4_pass_22 rfl 0 rfl ?_
        refine z_get (C := RX4) (T := TX4) (N := 5) mx mb mts (in_X4_pass_X4) mo hK zgw 0 wB_0 rfl 0 (by decide) (mts _ (List.mem_of_getElem? (i := 5) rfl)) (fun _ h9 => h9) rfl dX4_pass_23 ?_
        refine z_get (C := RX0) (T := TX0) (N := 9) mx mb mts (in_X4_pass_X0) mo hK zgw (4 + 15 * 0 + 0) ((wB_get 0 0 (by omega) (by omega)).trans wR_0) rfl 7 (by decide) (mts _ (List.mem_of_getElem? (i := 6) rfl)) (fun _ h9 => h9) rfl dX4_pass_26 ?_
        refine z_top (show (S 0) 0 1 = f 3 from by exact r3) ?_
        refine z_iload_n mx mb dX4_pass_29 rfl 1 rfl ?_
        refine z_iadd mx mb dX4_pass_30 ?_
        refine z_ldc (z := 100000) mx mb mo (mts _ (List.mem_of_getElem? (i := 7) rfl)) (by decide +kernel) dX4_pass_31 ?_
        refine z_icmp_le (tgt := 46) mx mb (by omega) (by omega) dX4_pass_33 (by decide) (fun c33 => ?_) (fun c33 => ?_)
        · skip
          exact absurd c33 (by omega)
        · skip
          rw [hQ]
          subst hw0
          exact z_throwS thrS mx mb hl0 mml mo (mts _ (List.mem_of_getElem? (i := 3) rfl)) (mts _ (List.mem_of_getElem? (i := 4) rfl)) (fun w hw => mts w (List.mem_cons_of_mem _ (List.mem_append_right _ hw))) hK hE (List.mem_of_getElem? (i := 4) rfl) hXt mlk dX4_pass_36 dX4_pass_39 dX4_pass_40 dX4_pass_42 dX4_pass_45 (Nat.le_of_ble_eq_true rfl) (Nat.le_of_ble_eq_true rfl) (Nat.le_of_ble_eq_true rfl) ⟨Nat.le_refl _, Nat.le_refl _⟩ ⟨Nat.le_refl _, Nat.le_refl _⟩
      · skip
        exact absurd c9 (by omega)
  subst hQ
  subst hw0
  exact hstart

set_option maxRecDepth 100000 in
set_option maxHeartbeats 4000000 in
theorem c_X4_train_t1 (l : Launch) (hl0 : l.stackTraces = false) (D : va_G) (sz : Nat) (y : Nat → ClassId) (o : Nat → Nat) (a : Nat → Nat → Nat) (S : Nat → Nat → Int → Int) (tb : Nat → Nat) (x : Int → Int) (ln sc : Int) (f : Int → Int) (t w : Int) (hR : Rel f (S 0)) (hI : Inv 100000 f) (kp : Kp f) (h9t : -2147483648 ≤ t ∧ t ≤ 2147483647) (h9w : -2147483648 ≤ w ∧ w ≤ 2147483647) (ht : ¬ (0 ≤ t ∧ t < f 2)) : vx_Met l yX4_train wsX4_train ({ frames := 7, cells := 1, slots := 6, locals := 111 } : Room) (zPe D vwCl (zT y) (wBq y o a S tb x ln sc (sav a) p6) sz [.ref (o 0), .int (iZ t), .int (iZ w)]) zNo (zXc "java/lang/IndexOutOfBoundsException" D vwCl (zT y) (wBq y o a S tb x ln sc (sav a) p6) sz) 1 6 (va_A (wBq y o a S tb x ln sc (sav a) p6) sz) := by
  refine z_headX (cc := cX4_train) (maxL := 4) (ret := (some .int)) [(0, .ref (o 0)), (1, .int (iZ t)), (2, .int (iZ w))] rfl (Nat.le_of_ble_eq_true rfl) (by decide +kernel) rfl ?_
  intro pp ee ss mm below meth cd mx mb mr mml mo mts mlk hK hname hsz hA hE hXt
  generalize ([.ref (o 0), .int (iZ t), .int (iZ w)] : List Value).toArray = args at mts ⊢
  obtain ⟨wst, hw0⟩ : ∃ wst, wst = wBq y o a S tb x ln sc (sav a) p6 := ⟨_, rfl⟩
  replace hE : zE (va_A wst sz) ss ss.heap := by rw [hw0]; exact hE
  replace hA : ∀ q, ss.heap.size ≤ q → va_A wst sz q := by rw [hw0]; exact hA
  obtain ⟨Q, hQ⟩ : ∃ Q, Q = vx_MQ below zNo (zXc "java/lang/IndexOutOfBoundsException" D vwCl (zT y) wst sz) args ss 1 6 (va_A wst sz) := ⟨_, rfl⟩
  have hstart : Gz pp l ee ({ frames := 7, cells := 1, slots := 6, locals := 111 } : Room) ss mm args below meth cd 4 0 0 Q (Zw D vwCl (va_A wst sz) ss (wBq y o a S tb x ln sc (sav a) p6)) 0 [(0, .ref (o 0)), (1, .int (iZ t)), (2, .int (iZ w))] [] := by
    obtain ⟨hW, hN, hT⟩ := (Inv_Jy hI).f
    obtain ⟨w0, w1, w2, w3, w4, w5, w6⟩ := id hW
    obtain ⟨n3, n4, n5, n6, n7, n8, n9, n10⟩ := id hN
    obtain ⟨⟨r0, r1, r2, r3, r4⟩, rc, rb, ⟨s0, s1, s2, s3⟩, rt, rl⟩ := id hR
    refine z_aload_n mx mb dX4_train_0 rfl 0 rfl ?_
    refine z_iload_n mx mb dX4_train_1 rfl 1 rfl ?_
    rw [hQ]
    subst hw0
    exact z_callX (As := [.int (iZ t)]) (rest := []) ⟨mx, mb, mml, mo, mts⟩ hK hA hE (fun sz => c_X4_requireTrain_t l hl0 D sz y o a S tb x ln sc f t hR hI kp (by assumption) (by assumption)) (cwV 1 mts gX4_train_X4_requireTrain rfl rfl rfl (by decide +kernel) ⟨Nat.le_of_ble_eq_true rfl, Nat.le_of_ble_eq_true rfl⟩) 0 wB_0 rfl rfl rfl rfl (Nat.le_of_ble_eq_true rfl) ⟨Nat.le_refl _, Nat.le_refl _⟩ ⟨Nat.le_refl _, Nat.le_refl _⟩ dX4_train_2 hXt mlk
  subst hQ
  subst hw0
  exact hstart

set_option maxRecDepth 100000 in
set_option maxHeartbeats 4000000 in
theorem c_X4_train_t2 (l : Launch) (hl0 : l.stackTraces = false) (D : va_G) (sz : Nat) (y : Nat → ClassId) (o : Nat → Nat) (a : Nat → Nat → Nat) (S : Nat → Nat → Int → Int) (tb : Nat → Nat) (x : Int → Int) (ln sc : Int) (f : Int → Int) (t w : Int) (hR : Rel f (S 0)) (hI : Inv 100000 f) (kp : Kp f) (h9w : -2147483648 ≤ w ∧ w ≤ 2147483647) (ht : 0 ≤ t ∧ t < f 2) (hw9 : ¬ (0 ≤ w ∧ w ≤ 9)) : vx_Met l yX4_train wsX4_train ({ frames := 6, cells := 1, slots := 6, locals := 90 } : Room) (zPe D vwCl (zT y) (wBq y o a S tb x ln sc (sav a) p6) sz [.ref (o 0), .int (iZ t), .int (iZ w)]) zNo (zXc "java/lang/IllegalArgumentException" D vwCl (zT y) (wBq y o a S tb x ln sc (sav a) p6) sz) 1 6 (va_A (wBq y o a S tb x ln sc (sav a) p6) sz) := by
  refine z_headX (cc := cX4_train) (maxL := 4) (ret := (some .int)) [(0, .ref (o 0)), (1, .int (iZ t)), (2, .int (iZ w))] rfl (Nat.le_of_ble_eq_true rfl) (by decide +kernel) rfl ?_
  intro pp ee ss mm below meth cd mx mb mr mml mo mts mlk hK hname hsz hA hE hXt
  generalize ([.ref (o 0), .int (iZ t), .int (iZ w)] : List Value).toArray = args at mts ⊢
  obtain ⟨wst, hw0⟩ : ∃ wst, wst = wBq y o a S tb x ln sc (sav a) p6 := ⟨_, rfl⟩
  replace hE : zE (va_A wst sz) ss ss.heap := by rw [hw0]; exact hE
  replace hA : ∀ q, ss.heap.size ≤ q → va_A wst sz q := by rw [hw0]; exact hA
  obtain ⟨Q, hQ⟩ : ∃ Q, Q = vx_MQ below zNo (zXc "java/lang/IllegalArgumentException" D vwCl (zT y) wst sz) args ss 1 6 (va_A wst sz) := ⟨_, rfl⟩
  have hstart : Gz pp l ee ({ frames := 6, cells := 1, slots := 6, locals := 90 } : Room) ss mm args below meth cd 4 0 0 Q (Zw D vwCl (va_A wst sz) ss (wBq y o a S tb x ln sc (sav a) p6)) 0 [(0, .ref (o 0)), (1, .int (iZ t)), (2, .int (iZ w))] [] := by
    obtain ⟨hW, hN, hT⟩ := (Inv_Jy hI).f
    obtain ⟨w0, w1, w2, w3, w4, w5, w6⟩ := id hW
    obtain ⟨n3, n4, n5, n6, n7, n8, n9, n10⟩ := id hN
    obtain ⟨⟨r0, r1, r2, r3, r4⟩, rc, rb, ⟨s0, s1, s2, s3⟩, rt, rl⟩ := id hR
    obtain ⟨kA, hG, hS9⟩ := id kp
    obtain ⟨n, hn⟩ : ∃ n : Nat, t = (n : Int) := ⟨t.toNat, by omega⟩
    have hn4 : (n : Int) < f 2 ∧ n < 4 := by omega
    have tn := hT (n : Int) (by omega) (by omega)
    obtain ⟨T1, T2, T3, T5, T7⟩ := tn
    refine z_aload_n mx mb dX4_train_0 rfl 0 rfl ?_
    refine z_iload_n mx mb dX4_train_1 rfl 1 rfl ?_
    refine z_callV0 (As := [.int (iZ t)]) (rest := []) ⟨mx, mb, mml, mo, mts⟩ hK hA (fun sz => c_X4_requireTrain l D sz y o a S tb x ln sc f t hR hI kp (by omega)) (cwV 1 mts gX4_train_X4_requireTrain rfl rfl rfl (by decide +kernel) ⟨Nat.le_of_ble_eq_true rfl, Nat.le_of_ble_eq_true rfl⟩) 0 wB_0 rfl rfl rfl rfl (Nat.le_of_ble_eq_true rfl) ⟨Nat.zero_le _, Nat.zero_le _⟩ dX4_train_2 (fun u2 hu2 => ?_)
    show Gz pp l ee ({ frames := 6, cells := 1, slots := 6, locals := 90 } : Room) ss mm args below meth cd 4 0 0 Q (Zw D vwCl (va_A wst sz) ss (wBq y o a S tb x ln sc (sav a) p6)) 5 [(0, .ref (o 0)), (1, .int (iZ t)), (2, .int (iZ w))] []
    refine z_aload_n mx mb dX4_train_5 rfl 0 rfl ?_
    refine z_get (C := RX4) (T := TX4) (N := 5) mx mb mts (in_X4_train_X4) mo hK zgw 0 wB_0 rfl 0 (by decide) (mts _ (List.mem_of_getElem? (i := 3) rfl)) (fun _ h9 => h9) rfl dX4_train_6 ?_
    refine z_get (C := RX0) (T := TX0) (N := 9) mx mb mts (in_X4_train_X0) mo hK zgw (4 + 15 * 0 + 0) ((wB_get 0 0 (by omega) (by omega)).trans wR_0) rfl 1 (by decide) (mts _ (List.mem_of_getElem? (i := 4) rfl)) (fun _ h9 => h9) rfl dX4_train_9 ?_
    refine z_iload_n mx mb dX4_train_12 rfl 1 rfl ?_
    refine z_top (show t = (n : Int) from by exact hn) ?_
    refine z_aald (i := n) mx mb hK zgw (4 + 15 * 0 + 6) 1 ((wB_get 0 6 (by omega) (by omega)).trans wR_6) rfl (by decide) (by omega) dX4_train_13 ?_
    refine z_astore_n mx mb dX4_train_14 rfl (by decide) [(3, .ref (a 0 (8 + n))), (0, .ref (o 0)), (1, .int (iZ t)), (2, .int (iZ w))] rfl ?_
    refine z_iload_n mx mb dX4_train_15 rfl 3 rfl ?_
    rcases (show w = 0 ∨ w = 1 ∨ w = 2 ∨ w = 3 ∨ w = 4 ∨ w = 5 ∨ w = 6 ∨ w = 7 ∨ w = 8 ∨ w = 9 ∨ (w < 0 ∨ 9 < w) from by omega) with t16 | t16 | t16 | t16 | t16 | t16 | t16 | t16 | t16 | t16 | t16
    · skip
      exact absurd t16 (by omega)
    · skip
      exact absurd t16 (by omega)
    · skip
      exact absurd t16 (by omega)
    · skip
      exact absurd t16 (by omega)
    · skip
      exact absurd t16 (by omega)
    · skip
      exact absurd t16 (by omega)
    · skip
      exact absurd t16 (by omega)
    · skip
      exact absurd t16 (by omega)
    · skip
      exact absurd t16 (by omega)
    · skip
      exact absurd t16 (by omega)
    · skip
      refine z_tout (tgt := 130) mx mb (by omega) t16 dX4_train_16 (by decide) ?_
      rw [hQ]
      subst hw0
      exact z_throwS thrA mx mb hl0 mml mo (mts _ (List.mem_of_getElem? (i := 1) rfl)) (mts _ (List.mem_of_getElem? (i := 2) rfl)) (fun w hw => mts w (List.mem_cons_of_mem _ (List.mem_append_left _ (List.mem_append_right _ hw)))) hK hE (List.mem_of_getElem? (i := 5) rfl) hXt mlk dX4_train_130 dX4_train_133 dX4_train_134 dX4_train_136 dX4_train_139 (Nat.le_of_ble_eq_true rfl) (Nat.le_of_ble_eq_true rfl) (Nat.le_of_ble_eq_true rfl) ⟨Nat.le_refl _, Nat.le_refl _⟩ ⟨Nat.le_refl _, Nat.le_refl _⟩
  subst hQ
  subst hw0
  exact hstart

set_option maxRecDepth 100000 in
set_option maxHeartbeats 4000000 in
theorem c_X4_cell_t1 (l : Launch) (hl0 : l.stackTraces = false) (D : va_G) (sz : Nat) (y : Nat → ClassId) (o : Nat → Nat) (a : Nat → Nat → Nat) (S : Nat → Nat → Int → Int) (tb : Nat → Nat) (x : Int → Int) (ln sc : Int) (f : Int → Int) (c w : Int) (hR : Rel f (S 0)) (hI : Inv 100000 f) (kp : Kp f) (h9c : -2147483648 ≤ c ∧ c ≤ 2147483647) (h9w : -2147483648 ≤ w ∧ w ≤ 2147483647) (hc : ¬ (0 ≤ c ∧ c < f 0)) : vx_Met l yX4_cell wsX4_cell ({ frames := 7, cells := 1, slots := 6, locals := 111 } : Room) (zPe D vwCl (zT y) (wBq y o a S tb x ln sc (sav a) p6) sz [.ref (o 0), .int (iZ c), .int (iZ w)]) zNo (zXc "java/lang/IndexOutOfBoundsException" D vwCl (zT y) (wBq y o a S tb x ln sc (sav a) p6) sz) 1 6 (va_A (wBq y o a S tb x ln sc (sav a) p6) sz) := by
  refine z_headX (cc := cX4_cell) (maxL := 3) (ret := (some .int)) [(0, .ref (o 0)), (1, .int (iZ c)), (2, .int (iZ w))] rfl (Nat.le_of_ble_eq_true rfl) (by decide +kernel) rfl ?_
  intro pp ee ss mm below meth cd mx mb mr mml mo mts mlk hK hname hsz hA hE hXt
  generalize ([.ref (o 0), .int (iZ c), .int (iZ w)] : List Value).toArray = args at mts ⊢
  obtain ⟨wst, hw0⟩ : ∃ wst, wst = wBq y o a S tb x ln sc (sav a) p6 := ⟨_, rfl⟩
  replace hE : zE (va_A wst sz) ss ss.heap := by rw [hw0]; exact hE
  replace hA : ∀ q, ss.heap.size ≤ q → va_A wst sz q := by rw [hw0]; exact hA
  obtain ⟨Q, hQ⟩ : ∃ Q, Q = vx_MQ below zNo (zXc "java/lang/IndexOutOfBoundsException" D vwCl (zT y) wst sz) args ss 1 6 (va_A wst sz) := ⟨_, rfl⟩
  have hstart : Gz pp l ee ({ frames := 7, cells := 1, slots := 6, locals := 111 } : Room) ss mm args below meth cd 3 0 0 Q (Zw D vwCl (va_A wst sz) ss (wBq y o a S tb x ln sc (sav a) p6)) 0 [(0, .ref (o 0)), (1, .int (iZ c)), (2, .int (iZ w))] [] := by
    obtain ⟨hW, hN, hT⟩ := (Inv_Jy hI).f
    obtain ⟨w0, w1, w2, w3, w4, w5, w6⟩ := id hW
    obtain ⟨n3, n4, n5, n6, n7, n8, n9, n10⟩ := id hN
    obtain ⟨⟨r0, r1, r2, r3, r4⟩, rc, rb, ⟨s0, s1, s2, s3⟩, rt, rl⟩ := id hR
    refine z_aload_n mx mb dX4_cell_0 rfl 0 rfl ?_
    refine z_iload_n mx mb dX4_cell_1 rfl 1 rfl ?_
    rw [hQ]
    subst hw0
    exact z_callX (As := [.int (iZ c)]) (rest := []) ⟨mx, mb, mml, mo, mts⟩ hK hA hE (fun sz => c_X4_requireCell_t l hl0 D sz y o a S tb x ln sc f c hR hI kp (by assumption) (by assumption)) (cwV 1 mts gX4_cell_X4_requireCell rfl rfl rfl (by decide +kernel) ⟨Nat.le_of_ble_eq_true rfl, Nat.le_of_ble_eq_true rfl⟩) 0 wB_0 rfl rfl rfl rfl (Nat.le_of_ble_eq_true rfl) ⟨Nat.le_refl _, Nat.le_refl _⟩ ⟨Nat.le_refl _, Nat.le_refl _⟩ dX4_cell_2 hXt mlk
  subst hQ
  subst hw0
  exact hstart

set_option maxRecDepth 100000 in
set_option maxHeartbeats 4000000 in
theorem c_X4_cell_t2 (l : Launch) (hl0 : l.stackTraces = false) (D : va_G) (sz : Nat) (y : Nat → ClassId) (o : Nat → Nat) (a : Nat → Nat → Nat) (S : Nat → Nat → Int → Int) (tb : Nat → Nat) (x : Int → Int) (ln sc : Int) (f : Int → Int) (c w : Int) (hR : Rel f (S 0)) (hI : Inv 100000 f) (kp : Kp f) (h9w : -2147483648 ≤ w ∧ w ≤ 2147483647) (hc : 0 ≤ c ∧ c < f 0) (hw9 : ¬ (0 ≤ w ∧ w ≤ 3)) : vx_Met l yX4_cell wsX4_cell ({ frames := 6, cells := 1, slots := 6, locals := 90 } : Room) (zPe D vwCl (zT y) (wBq y o a S tb x ln sc (sav a) p6) sz [.ref (o 0), .int (iZ c), .int (iZ w)]) zNo (zXc "java/lang/IllegalArgumentException" D vwCl (zT y) (wBq y o a S tb x ln sc (sav a) p6) sz) 1 6 (va_A (wBq y o a S tb x ln sc (sav a) p6) sz) := by
  refine z_headX (cc := cX4_cell) (maxL := 3) (ret := (some .int)) [(0, .ref (o 0)), (1, .int (iZ c)), (2, .int (iZ w))] rfl (Nat.le_of_ble_eq_true rfl) (by decide +kernel) rfl ?_
  intro pp ee ss mm below meth cd mx mb mr mml mo mts mlk hK hname hsz hA hE hXt
  generalize ([.ref (o 0), .int (iZ c), .int (iZ w)] : List Value).toArray = args at mts ⊢
  obtain ⟨wst, hw0⟩ : ∃ wst, wst = wBq y o a S tb x ln sc (sav a) p6 := ⟨_, rfl⟩
  replace hE : zE (va_A wst sz) ss ss.heap := by rw [hw0]; exact hE
  replace hA : ∀ q, ss.heap.size ≤ q → va_A wst sz q := by rw [hw0]; exact hA
  obtain ⟨Q, hQ⟩ : ∃ Q, Q = vx_MQ below zNo (zXc "java/lang/IllegalArgumentException" D vwCl (zT y) wst sz) args ss 1 6 (va_A wst sz) := ⟨_, rfl⟩
  have hstart : Gz pp l ee ({ frames := 6, cells := 1, slots := 6, locals := 90 } : Room) ss mm args below meth cd 3 0 0 Q (Zw D vwCl (va_A wst sz) ss (wBq y o a S tb x ln sc (sav a) p6)) 0 [(0, .ref (o 0)), (1, .int (iZ c)), (2, .int (iZ w))] [] := by
    obtain ⟨hW, hN, hT⟩ := (Inv_Jy hI).f
    obtain ⟨w0, w1, w2, w3, w4, w5, w6⟩ := id hW
    obtain ⟨n3, n4, n5, n6, n7, n8, n9, n10⟩ := id hN
    obtain ⟨⟨r0, r1, r2, r3, r4⟩, rc, rb, ⟨s0, s1, s2, s3⟩, rt, rl⟩ := id hR
    refine z_aload_n mx mb dX4_cell_0 rfl 0 rfl ?_
    refine z_iload_n mx mb dX4_cell_1 rfl 1 rfl ?_
    refine z_callV0 (As := [.int (iZ c)]) (rest := []) ⟨mx, mb, mml, mo, mts⟩ hK hA (fun sz => c_X4_requireCell l D sz y o a S tb x ln sc f c hR hI kp (by omega)) (cwV 1 mts gX4_cell_X4_requireCell rfl rfl rfl (by decide +kernel) ⟨Nat.le_of_ble_eq_true rfl, Nat.le_of_ble_eq_true rfl⟩) 0 wB_0 rfl rfl rfl rfl (Nat.le_of_ble_eq_true rfl) ⟨Nat.zero_le _, Nat.zero_le _⟩ dX4_cell_2 (fun u2 hu2 => ?_)
    show Gz pp l ee ({ frames := 6, cells := 1, slots := 6, locals := 90 } : Room) ss mm args below meth cd 3 0 0 Q (Zw D vwCl (va_A wst sz) ss (wBq y o a S tb x ln sc (sav a) p6)) 5 [(0, .ref (o 0)), (1, .int (iZ c)), (2, .int (iZ w))] []
    refine z_iload_n mx mb dX4_cell_5 rfl 2 rfl ?_
    rcases (show w = 0 ∨ w = 1 ∨ w = 2 ∨ w = 3 ∨ (w < 0 ∨ 3 < w) from by omega) with t6 | t6 | t6 | t6 | t6
    · skip
      exact absurd t6 (by omega)
    · skip
      exact absurd t6 (by omega)
    · skip
      exact absurd t6 (by omega)
    · skip
      exact absurd t6 (by omega)
    · skip
      refine z_tout (tgt := 84) mx mb (by omega) t6 dX4_cell_6 (by decide) ?_
      rw [hQ]
      subst hw0
      exact z_throwS thrA mx mb hl0 mml mo (mts _ (List.mem_of_getElem? (i := 1) rfl)) (mts _ (List.mem_of_getElem? (i := 2) rfl)) (fun w hw => mts w (List.mem_cons_of_mem _ (List.mem_append_left _ (List.mem_append_right _ hw)))) hK hE (List.mem_of_getElem? (i := 6) rfl) hXt mlk dX4_cell_84 dX4_cell_87 dX4_cell_88 dX4_cell_90 dX4_cell_93 (Nat.le_of_ble_eq_true rfl) (Nat.le_of_ble_eq_true rfl) (Nat.le_of_ble_eq_true rfl) ⟨Nat.le_refl _, Nat.le_refl _⟩ ⟨Nat.le_refl _, Nat.le_refl _⟩
  subst hQ
  subst hw0
  exact hstart

set_option maxRecDepth 100000 in
set_option maxHeartbeats 4000000 in
theorem c_X4_block_t1 (l : Launch) (hl0 : l.stackTraces = false) (D : va_G) (sz : Nat) (y : Nat → ClassId) (o : Nat → Nat) (a : Nat → Nat → Nat) (S : Nat → Nat → Int → Int) (tb : Nat → Nat) (x : Int → Int) (ln sc : Int) (f : Int → Int) (c w : Int) (hR : Rel f (S 0)) (hI : Inv 100000 f) (kp : Kp f) (h9c : -2147483648 ≤ c ∧ c ≤ 2147483647) (h9w : -2147483648 ≤ w ∧ w ≤ 2147483647) (hc : ¬ (0 ≤ c ∧ c < f 1)) : vx_Met l yX4_block wsX4_block ({ frames := 7, cells := 1, slots := 6, locals := 111 } : Room) (zPe D vwCl (zT y) (wBq y o a S tb x ln sc (sav a) p6) sz [.ref (o 0), .int (iZ c), .int (iZ w)]) zNo (zXc "java/lang/IndexOutOfBoundsException" D vwCl (zT y) (wBq y o a S tb x ln sc (sav a) p6) sz) 1 6 (va_A (wBq y o a S tb x ln sc (sav a) p6) sz) := by
  refine z_headX (cc := cX4_block) (maxL := 3) (ret := (some .int)) [(0, .ref (o 0)), (1, .int (iZ c)), (2, .int (iZ w))] rfl (Nat.le_of_ble_eq_true rfl) (by decide +kernel) rfl ?_
  intro pp ee ss mm below meth cd mx mb mr mml mo mts mlk hK hname hsz hA hE hXt
  generalize ([.ref (o 0), .int (iZ c), .int (iZ w)] : List Value).toArray = args at mts ⊢
  obtain ⟨wst, hw0⟩ : ∃ wst, wst = wBq y o a S tb x ln sc (sav a) p6 := ⟨_, rfl⟩
  replace hE : zE (va_A wst sz) ss ss.heap := by rw [hw0]; exact hE
  replace hA : ∀ q, ss.heap.size ≤ q → va_A wst sz q := by rw [hw0]; exact hA
  obtain ⟨Q, hQ⟩ : ∃ Q, Q = vx_MQ below zNo (zXc "java/lang/IndexOutOfBoundsException" D vwCl (zT y) wst sz) args ss 1 6 (va_A wst sz) := ⟨_, rfl⟩
  have hstart : Gz pp l ee ({ frames := 7, cells := 1, slots := 6, locals := 111 } : Room) ss mm args below meth cd 3 0 0 Q (Zw D vwCl (va_A wst sz) ss (wBq y o a S tb x ln sc (sav a) p6)) 0 [(0, .ref (o 0)), (1, .int (iZ c)), (2, .int (iZ w))] [] := by
    obtain ⟨hW, hN, hT⟩ := (Inv_Jy hI).f
    obtain ⟨w0, w1, w2, w3, w4, w5, w6⟩ := id hW
    obtain ⟨n3, n4, n5, n6, n7, n8, n9, n10⟩ := id hN
    obtain ⟨⟨r0, r1, r2, r3, r4⟩, rc, rb, ⟨s0, s1, s2, s3⟩, rt, rl⟩ := id hR
    refine z_aload_n mx mb dX4_block_0 rfl 0 rfl ?_
    refine z_iload_n mx mb dX4_block_1 rfl 1 rfl ?_
    rw [hQ]
    subst hw0
    exact z_callX (As := [.int (iZ c)]) (rest := []) ⟨mx, mb, mml, mo, mts⟩ hK hA hE (fun sz => c_X4_requireBlock_t l hl0 D sz y o a S tb x ln sc f c hR hI kp (by assumption) (by assumption)) (cwV 1 mts gX4_block_X4_requireBlock rfl rfl rfl (by decide +kernel) ⟨Nat.le_of_ble_eq_true rfl, Nat.le_of_ble_eq_true rfl⟩) 0 wB_0 rfl rfl rfl rfl (Nat.le_of_ble_eq_true rfl) ⟨Nat.le_refl _, Nat.le_refl _⟩ ⟨Nat.le_refl _, Nat.le_refl _⟩ dX4_block_2 hXt mlk
  subst hQ
  subst hw0
  exact hstart

set_option maxRecDepth 100000 in
set_option maxHeartbeats 4000000 in
theorem c_X4_block_t2 (l : Launch) (hl0 : l.stackTraces = false) (D : va_G) (sz : Nat) (y : Nat → ClassId) (o : Nat → Nat) (a : Nat → Nat → Nat) (S : Nat → Nat → Int → Int) (tb : Nat → Nat) (x : Int → Int) (ln sc : Int) (f : Int → Int) (c w : Int) (hR : Rel f (S 0)) (hI : Inv 100000 f) (kp : Kp f) (h9w : -2147483648 ≤ w ∧ w ≤ 2147483647) (hc : 0 ≤ c ∧ c < f 1) (hw9 : ¬ (0 ≤ w ∧ w ≤ 4)) : vx_Met l yX4_block wsX4_block ({ frames := 6, cells := 1, slots := 6, locals := 90 } : Room) (zPe D vwCl (zT y) (wBq y o a S tb x ln sc (sav a) p6) sz [.ref (o 0), .int (iZ c), .int (iZ w)]) zNo (zXc "java/lang/IllegalArgumentException" D vwCl (zT y) (wBq y o a S tb x ln sc (sav a) p6) sz) 1 6 (va_A (wBq y o a S tb x ln sc (sav a) p6) sz) := by
  refine z_headX (cc := cX4_block) (maxL := 3) (ret := (some .int)) [(0, .ref (o 0)), (1, .int (iZ c)), (2, .int (iZ w))] rfl (Nat.le_of_ble_eq_true rfl) (by decide +kernel) rfl ?_
  intro pp ee ss mm below meth cd mx mb mr mml mo mts mlk hK hname hsz hA hE hXt
  generalize ([.ref (o 0), .int (iZ c), .int (iZ w)] : List Value).toArray = args at mts ⊢
  obtain ⟨wst, hw0⟩ : ∃ wst, wst = wBq y o a S tb x ln sc (sav a) p6 := ⟨_, rfl⟩
  replace hE : zE (va_A wst sz) ss ss.heap := by rw [hw0]; exact hE
  replace hA : ∀ q, ss.heap.size ≤ q → va_A wst sz q := by rw [hw0]; exact hA
  obtain ⟨Q, hQ⟩ : ∃ Q, Q = vx_MQ below zNo (zXc "java/lang/IllegalArgumentException" D vwCl (zT y) wst sz) args ss 1 6 (va_A wst sz) := ⟨_, rfl⟩
  have hstart : Gz pp l ee ({ frames := 6, cells := 1, slots := 6, locals := 90 } : Room) ss mm args below meth cd 3 0 0 Q (Zw D vwCl (va_A wst sz) ss (wBq y o a S tb x ln sc (sav a) p6)) 0 [(0, .ref (o 0)), (1, .int (iZ c)), (2, .int (iZ w))] [] := by
    obtain ⟨hW, hN, hT⟩ := (Inv_Jy hI).f
    obtain ⟨w0, w1, w2, w3, w4, w5, w6⟩ := id hW
    obtain ⟨n3, n4, n5, n6, n7, n8, n9, n10⟩ := id hN
    obtain ⟨⟨r0, r1, r2, r3, r4⟩, rc, rb, ⟨s0, s1, s2, s3⟩, rt, rl⟩ := id hR
    refine z_aload_n mx mb dX4_block_0 rfl 0 rfl ?_
    refine z_iload_n mx mb dX4_block_1 rfl 1 rfl ?_
    refine z_callV0 (As := [.int (iZ c)]) (rest := []) ⟨mx, mb, mml, mo, mts⟩ hK hA (fun sz => c_X4_requireBlock l D sz y o a S tb x ln sc f c hR hI kp (by omega)) (cwV 1 mts gX4_block_X4_requireBlock rfl rfl rfl (by decide +kernel) ⟨Nat.le_of_ble_eq_true rfl, Nat.le_of_ble_eq_true rfl⟩) 0 wB_0 rfl rfl rfl rfl (Nat.le_of_ble_eq_true rfl) ⟨Nat.zero_le _, Nat.zero_le _⟩ dX4_block_2 (fun u2 hu2 => ?_)
    show Gz pp l ee ({ frames := 6, cells := 1, slots := 6, locals := 90 } : Room) ss mm args below meth cd 3 0 0 Q (Zw D vwCl (va_A wst sz) ss (wBq y o a S tb x ln sc (sav a) p6)) 5 [(0, .ref (o 0)), (1, .int (iZ c)), (2, .int (iZ w))] []
    refine z_iload_n mx mb dX4_block_5 rfl 2 rfl ?_
    rcases (show w = 0 ∨ w = 1 ∨ w = 2 ∨ w = 3 ∨ w = 4 ∨ (w < 0 ∨ 4 < w) from by omega) with t6 | t6 | t6 | t6 | t6 | t6
    · skip
      exact absurd t6 (by omega)
    · skip
      exact absurd t6 (by omega)
    · skip
      exact absurd t6 (by omega)
    · skip
      exact absurd t6 (by omega)
    · skip
      exact absurd t6 (by omega)
    · skip
      refine z_tout (tgt := 96) mx mb (by omega) t6 dX4_block_6 (by decide) ?_
      rw [hQ]
      subst hw0
      exact z_throwS thrA mx mb hl0 mml mo (mts _ (List.mem_of_getElem? (i := 1) rfl)) (mts _ (List.mem_of_getElem? (i := 2) rfl)) (fun w hw => mts w (List.mem_cons_of_mem _ (List.mem_append_left _ (List.mem_append_right _ hw)))) hK hE (List.mem_of_getElem? (i := 7) rfl) hXt mlk dX4_block_96 dX4_block_99 dX4_block_100 dX4_block_102 dX4_block_105 (Nat.le_of_ble_eq_true rfl) (Nat.le_of_ble_eq_true rfl) (Nat.le_of_ble_eq_true rfl) ⟨Nat.le_refl _, Nat.le_refl _⟩ ⟨Nat.le_refl _, Nat.le_refl _⟩
  subst hQ
  subst hw0
  exact hstart

set_option maxRecDepth 100000 in
set_option maxHeartbeats 4000000 in
theorem c_X4_value_t (l : Launch) (hl0 : l.stackTraces = false) (D : va_G) (sz : Nat) (y : Nat → ClassId) (o : Nat → Nat) (a : Nat → Nat → Nat) (S : Nat → Nat → Int → Int) (tb : Nat → Nat) (x : Int → Int) (ln sc : Int) (f : Int → Int) (w : Int) (hR : Rel f (S 0)) (hI : Inv 100000 f) (kp : Kp f) (h9w : -2147483648 ≤ w ∧ w ≤ 2147483647) (hw9 : ¬ (0 ≤ w ∧ w ≤ 11)) : vx_Met l yX4_value wsX4_value ({ frames := 6, cells := 1, slots := 6, locals := 90 } : Room) (zPe D vwCl (zT y) (wBq y o a S tb x ln sc (sav a) p6) sz [.ref (o 0), .int (iZ w)]) zNo (zXc "java/lang/IllegalArgumentException" D vwCl (zT y) (wBq y o a S tb x ln sc (sav a) p6) sz) 1 6 (va_A (wBq y o a S tb x ln sc (sav a) p6) sz) := by
  refine z_headX (cc := cX4_value) (maxL := 2) (ret := (some .int)) [(0, .ref (o 0)), (1, .int (iZ w))] rfl (Nat.le_of_ble_eq_true rfl) (by decide +kernel) rfl ?_
  intro pp ee ss mm below meth cd mx mb mr mml mo mts mlk hK hname hsz hA hE hXt
  generalize ([.ref (o 0), .int (iZ w)] : List Value).toArray = args at mts ⊢
  obtain ⟨wst, hw0⟩ : ∃ wst, wst = wBq y o a S tb x ln sc (sav a) p6 := ⟨_, rfl⟩
  replace hE : zE (va_A wst sz) ss ss.heap := by rw [hw0]; exact hE
  replace hA : ∀ q, ss.heap.size ≤ q → va_A wst sz q := by rw [hw0]; exact hA
  obtain ⟨Q, hQ⟩ : ∃ Q, Q = vx_MQ below zNo (zXc "java/lang/IllegalArgumentException" D vwCl (zT y) wst sz) args ss 1 6 (va_A wst sz) := ⟨_, rfl⟩
  have hstart : Gz pp l ee ({ frames := 6, cells := 1, slots := 6, locals := 90 } : Room) ss mm args below meth cd 2 0 0 Q (Zw D vwCl (va_A wst sz) ss (wBq y o a S tb x ln sc (sav a) p6)) 0 [(0, .ref (o 0)), (1, .int (iZ w))] [] := by
    obtain ⟨hW, hN, hT⟩ := (Inv_Jy hI).f
    obtain ⟨w0, w1, w2, w3, w4, w5, w6⟩ := id hW
    obtain ⟨n3, n4, n5, n6, n7, n8, n9, n10⟩ := id hN
    obtain ⟨⟨r0, r1, r2, r3, r4⟩, rc, rb, ⟨s0, s1, s2, s3⟩, rt, rl⟩ := id hR
    refine z_iload_n mx mb dX4_value_0 rfl 1 rfl ?_
    rcases (show w = 0 ∨ w = 1 ∨ w = 2 ∨ w = 3 ∨ w = 4 ∨ w = 5 ∨ w = 6 ∨ w = 7 ∨ w = 8 ∨ w = 9 ∨ w = 10 ∨ w = 11 ∨ (w < 0 ∨ 11 < w) from by omega) with t1 | t1 | t1 | t1 | t1 | t1 | t1 | t1 | t1 | t1 | t1 | t1 | t1
    · skip
      exact absurd t1 (by omega)
    · skip
      exact absurd t1 (by omega)
    · skip
      exact absurd t1 (by omega)
    · skip
      exact absurd t1 (by omega)
    · skip
      exact absurd t1 (by omega)
    · skip
      exact absurd t1 (by omega)
    · skip
      exact absurd t1 (by omega)
    · skip
      exact absurd t1 (by omega)
    · skip
      exact absurd t1 (by omega)
    · skip
      exact absurd t1 (by omega)
    · skip
      exact absurd t1 (by omega)
    · skip
      exact absurd t1 (by omega)
    · skip
      refine z_tout (tgt := 177) mx mb (by omega) t1 dX4_value_1 (by decide) ?_
      rw [hQ]
      subst hw0
      exact z_throwS thrA mx mb hl0 mml mo (mts _ (List.mem_of_getElem? (i := 1) rfl)) (mts _ (List.mem_of_getElem? (i := 2) rfl)) (fun w hw => mts w (List.mem_cons_of_mem _ (List.mem_append_right _ hw))) hK hE (List.mem_of_getElem? (i := 8) rfl) hXt mlk dX4_value_177 dX4_value_180 dX4_value_181 dX4_value_183 dX4_value_186 (Nat.le_of_ble_eq_true rfl) (Nat.le_of_ble_eq_true rfl) (Nat.le_of_ble_eq_true rfl) ⟨Nat.le_refl _, Nat.le_refl _⟩ ⟨Nat.le_refl _, Nat.le_refl _⟩
  subst hQ
  subst hw0
  exact hstart

set_option maxRecDepth 100000 in
set_option maxHeartbeats 4000000 in
theorem c_X4_dispatch_t1 (l : Launch) (hl0 : l.stackTraces = false) (D : va_G) (sz : Nat) (y : Nat → ClassId) (o : Nat → Nat) (a : Nat → Nat → Nat) (S : Nat → Nat → Int → Int) (tb : Nat → Nat) (x : Int → Int) (ln sc : Int) (f : Int → Int) (i w : Int) (hR : Rel f (S 0)) (hI : Inv 100000 f) (kp : Kp f) (h9i : -2147483648 ≤ i ∧ i ≤ 2147483647) (h9w : -2147483648 ≤ w ∧ w ≤ 2147483647) (hi : ¬ (0 ≤ i ∧ i < f 10)) : vx_Met l yX4_dispatch wsX4_dispatch ({ frames := 6, cells := 1, slots := 6, locals := 90 } : Room) (zPe D vwCl (zT y) (wBq y o a S tb x ln sc (sav a) p6) sz [.ref (o 0), .int (iZ i), .int (iZ w)]) zNo (zXc "java/lang/IndexOutOfBoundsException" D vwCl (zT y) (wBq y o a S tb x ln sc (sav a) p6) sz) 1 6 (va_A (wBq y o a S tb x ln sc (sav a) p6) sz) := by
  refine z_headX (cc := cX4_dispatch) (maxL := 4) (ret := (some .int)) [(0, .ref (o 0)), (1, .int (iZ i)), (2, .int (iZ w))] rfl (Nat.le_of_ble_eq_true rfl) (by decide +kernel) rfl ?_
  intro pp ee ss mm below meth cd mx mb mr mml mo mts mlk hK hname hsz hA hE hXt
  generalize ([.ref (o 0), .int (iZ i), .int (iZ w)] : List Value).toArray = args at mts ⊢
  obtain ⟨wst, hw0⟩ : ∃ wst, wst = wBq y o a S tb x ln sc (sav a) p6 := ⟨_, rfl⟩
  replace hE : zE (va_A wst sz) ss ss.heap := by rw [hw0]; exact hE
  replace hA : ∀ q, ss.heap.size ≤ q → va_A wst sz q := by rw [hw0]; exact hA
  obtain ⟨Q, hQ⟩ : ∃ Q, Q = vx_MQ below zNo (zXc "java/lang/IndexOutOfBoundsException" D vwCl (zT y) wst sz) args ss 1 6 (va_A wst sz) := ⟨_, rfl⟩
  have hstart : Gz pp l ee ({ frames := 6, cells := 1, slots := 6, locals := 90 } : Room) ss mm args below meth cd 4 0 0 Q (Zw D vwCl (va_A wst sz) ss (wBq y o a S tb x ln sc (sav a) p6)) 0 [(0, .ref (o 0)), (1, .int (iZ i)), (2, .int (iZ w))] [] := by
    obtain ⟨hW, hN, hT⟩ := (Inv_Jy hI).f
    obtain ⟨w0, w1, w2, w3, w4, w5, w6⟩ := id hW
    obtain ⟨n3, n4, n5, n6, n7, n8, n9, n10⟩ := id hN
    obtain ⟨⟨r0, r1, r2, r3, r4⟩, rc, rb, ⟨s0, s1, s2, s3⟩, rt, rl⟩ := id hR
    obtain ⟨kA, hG, hS9⟩ := id kp
    obtain ⟨gg1, gg2, gg3⟩ := id hG
    have g8 : f 10 ≤ f 8 := (by rw [gg1]; split <;> omega)
    refine z_iload_n mx mb dX4_dispatch_0 rfl 1 rfl ?_
    refine z_if_lt (tgt := 15) mx mb (by omega) dX4_dispatch_1 (by decide) (fun c1 => ?_) (fun c1 => ?_)
    · skip
      rw [hQ]
      subst hw0
      exact z_throwS thrI mx mb hl0 mml mo (mts _ (List.mem_of_getElem? (i := 1) rfl)) (mts _ (List.mem_of_getElem? (i := 2) rfl)) (fun w hw => mts w (List.mem_cons_of_mem _ (List.mem_append_left _ (List.mem_append_right _ hw)))) hK hE (List.mem_of_getElem? (i := 9) rfl) hXt mlk dX4_dispatch_15 dX4_dispatch_18 dX4_dispatch_19 dX4_dispatch_21 dX4_dispatch_24 (Nat.le_of_ble_eq_true rfl) (Nat.le_of_ble_eq_true rfl) (Nat.le_of_ble_eq_true rfl) ⟨Nat.le_refl _, Nat.le_refl _⟩ ⟨Nat.le_refl _, Nat.le_refl _⟩
    · skip
      refine z_iload_n mx mb dX4_dispatch_4 rfl 1 rfl ?_
      refine z_aload_n mx mb dX4_dispatch_5 rfl 0 rfl ?_
      refine z_get (C := RX4) (T := TX4) (N := 5) mx mb mts (in_X4_dispatch_X4) mo hK zgw 0 wB_0 rfl 0 (by decide) (mts _ (List.mem_of_getElem? (i := 5) rfl)) (fun _ h9 => h9) rfl dX4_dispatch_6 ?_
      refine z_callP (As := []) (rest := [.int (iZ i)]) ⟨mx, mb, mml, mo, mts⟩ hK zgw (c_X0_keptDispatches l D y (a 0) (S 0) f  (by assumption) (by assumption) (by assumption)) (cwV 0 mts gX4_dispatch_X0_keptDispatches rfl rfl rfl (by decide +kernel) ⟨Nat.le_of_ble_eq_true rfl, Nat.le_of_ble_eq_true rfl⟩) (wB_in 0 (by omega)) (4 + 15 * 0 + 0) ((wB_get 0 0 (by omega) (by omega)).trans wR_0) rfl rfl rfl rfl (Nat.le_of_ble_eq_true rfl) ⟨Nat.zero_le _, Nat.zero_le _⟩ dX4_dispatch_9 ?_
      refine z_icmp_lt (tgt := 25) mx mb (by omega) (by omega) dX4_dispatch_12 (by decide) (fun c12 => ?_) (fun c12 => ?_)
      · skip
        exact absurd c12 (by omega)
      · skip
        rw [hQ]
        subst hw0
        exact z_throwS thrI mx mb hl0 mml mo (mts _ (List.mem_of_getElem? (i := 1) rfl)) (mts _ (List.mem_of_getElem? (i := 2) rfl)) (fun w hw => mts w (List.mem_cons_of_mem _ (List.mem_append_left _ (List.mem_append_right _ hw)))) hK hE (List.mem_of_getElem? (i := 9) rfl) hXt mlk dX4_dispatch_15 dX4_dispatch_18 dX4_dispatch_19 dX4_dispatch_21 dX4_dispatch_24 (Nat.le_of_ble_eq_true rfl) (Nat.le_of_ble_eq_true rfl) (Nat.le_of_ble_eq_true rfl) ⟨Nat.le_refl _, Nat.le_refl _⟩ ⟨Nat.le_refl _, Nat.le_refl _⟩
  subst hQ
  subst hw0
  exact hstart

set_option maxRecDepth 100000 in
set_option maxHeartbeats 4000000 in
theorem c_X4_dispatch_t2 (l : Launch) (hl0 : l.stackTraces = false) (D : va_G) (sz : Nat) (y : Nat → ClassId) (o : Nat → Nat) (a : Nat → Nat → Nat) (S : Nat → Nat → Int → Int) (tb : Nat → Nat) (x : Int → Int) (ln sc : Int) (f : Int → Int) (i w : Int) (hR : Rel f (S 0)) (hI : Inv 100000 f) (kp : Kp f) (h9w : -2147483648 ≤ w ∧ w ≤ 2147483647) (hi : 0 ≤ i ∧ i < f 10) (hw9 : ¬ (0 ≤ w ∧ w ≤ 1)) : vx_Met l yX4_dispatch wsX4_dispatch ({ frames := 6, cells := 1, slots := 6, locals := 90 } : Room) (zPe D vwCl (zT y) (wBq y o a S tb x ln sc (sav a) p6) sz [.ref (o 0), .int (iZ i), .int (iZ w)]) zNo (zXc "java/lang/IllegalArgumentException" D vwCl (zT y) (wBq y o a S tb x ln sc (sav a) p6) sz) 1 6 (va_A (wBq y o a S tb x ln sc (sav a) p6) sz) := by
  refine z_headX (cc := cX4_dispatch) (maxL := 4) (ret := (some .int)) [(0, .ref (o 0)), (1, .int (iZ i)), (2, .int (iZ w))] rfl (Nat.le_of_ble_eq_true rfl) (by decide +kernel) rfl ?_
  intro pp ee ss mm below meth cd mx mb mr mml mo mts mlk hK hname hsz hA hE hXt
  generalize ([.ref (o 0), .int (iZ i), .int (iZ w)] : List Value).toArray = args at mts ⊢
  obtain ⟨wst, hw0⟩ : ∃ wst, wst = wBq y o a S tb x ln sc (sav a) p6 := ⟨_, rfl⟩
  replace hE : zE (va_A wst sz) ss ss.heap := by rw [hw0]; exact hE
  replace hA : ∀ q, ss.heap.size ≤ q → va_A wst sz q := by rw [hw0]; exact hA
  obtain ⟨Q, hQ⟩ : ∃ Q, Q = vx_MQ below zNo (zXc "java/lang/IllegalArgumentException" D vwCl (zT y) wst sz) args ss 1 6 (va_A wst sz) := ⟨_, rfl⟩
  have hstart : Gz pp l ee ({ frames := 6, cells := 1, slots := 6, locals := 90 } : Room) ss mm args below meth cd 4 0 0 Q (Zw D vwCl (va_A wst sz) ss (wBq y o a S tb x ln sc (sav a) p6)) 0 [(0, .ref (o 0)), (1, .int (iZ i)), (2, .int (iZ w))] [] := by
    obtain ⟨hW, hN, hT⟩ := (Inv_Jy hI).f
    obtain ⟨w0, w1, w2, w3, w4, w5, w6⟩ := id hW
    obtain ⟨n3, n4, n5, n6, n7, n8, n9, n10⟩ := id hN
    obtain ⟨⟨r0, r1, r2, r3, r4⟩, rc, rb, ⟨s0, s1, s2, s3⟩, rt, rl⟩ := id hR
    obtain ⟨kA, hG, hS9⟩ := id kp
    obtain ⟨gg1, gg2, gg3⟩ := id hG
    have g8 : f 10 ≤ f 8 := (by rw [gg1]; split <;> omega)
    refine z_iload_n mx mb dX4_dispatch_0 rfl 1 rfl ?_
    refine z_if_lt (tgt := 15) mx mb (by omega) dX4_dispatch_1 (by decide) (fun c1 => ?_) (fun c1 => ?_)
    · skip
      exact absurd c1 (by omega)
    · skip
      refine z_iload_n mx mb dX4_dispatch_4 rfl 1 rfl ?_
      refine z_aload_n mx mb dX4_dispatch_5 rfl 0 rfl ?_
      refine z_get (C := RX4) (T := TX4) (N := 5) mx mb mts (in_X4_dispatch_X4) mo hK zgw 0 wB_0 rfl 0 (by decide) (mts _ (List.mem_of_getElem? (i := 5) rfl)) (fun _ h9 => h9) rfl dX4_dispatch_6 ?_
      refine z_callP (As := []) (rest := [.int (iZ i)]) ⟨mx, mb, mml, mo, mts⟩ hK zgw (c_X0_keptDispatches l D y (a 0) (S 0) f  (by assumption) (by assumption) (by assumption)) (cwV 0 mts gX4_dispatch_X0_keptDispatches rfl rfl rfl (by decide +kernel) ⟨Nat.le_of_ble_eq_true rfl, Nat.le_of_ble_eq_true rfl⟩) (wB_in 0 (by omega)) (4 + 15 * 0 + 0) ((wB_get 0 0 (by omega) (by omega)).trans wR_0) rfl rfl rfl rfl (Nat.le_of_ble_eq_true rfl) ⟨Nat.zero_le _, Nat.zero_le _⟩ dX4_dispatch_9 ?_
      refine z_icmp_lt (tgt := 25) mx mb (by omega) (by omega) dX4_dispatch_12 (by decide) (fun c12 => ?_) (fun c12 => ?_)
      · skip
        refine z_aload_n mx mb dX4_dispatch_25 rfl 0 rfl ?_
        refine z_get (C := RX4) (T := TX4) (N := 5) mx mb mts (in_X4_dispatch_X4) mo hK zgw 0 wB_0 rfl 0 (by decide) (mts _ (List.mem_of_getElem? (i := 5) rfl)) (fun _ h9 => h9) rfl dX4_dispatch_26 ?_
        refine z_iload_n mx mb dX4_dispatch_29 rfl 1 rfl ?_
        refine z_callP (As := [.int (iZ i)]) (rest := []) ⟨mx, mb, mml, mo, mts⟩ hK zgw (c_X0_logPlace l D y (a 0) (S 0) f i (show 0 ≤ i ∧ i ≤ S 0 0 2 - 1 ∧ S 0 0 2 ≤ 2000000 by omega)) (cwV 1 mts gX4_dispatch_X0_logPlace rfl rfl rfl (by decide +kernel) ⟨Nat.le_of_ble_eq_true rfl, Nat.le_of_ble_eq_true rfl⟩) (wB_in 0 (by omega)) (4 + 15 * 0 + 0) ((wB_get 0 0 (by omega) (by omega)).trans wR_0) rfl rfl rfl rfl (Nat.le_of_ble_eq_true rfl) ⟨Nat.zero_le _, Nat.zero_le _⟩ dX4_dispatch_30 ?_
        refine z_istore_n mx mb dX4_dispatch_33 rfl (by decide) [(3, .int (iZ (((S 0) 0 2 - 1 - i) % 30))), (0, .ref (o 0)), (1, .int (iZ i)), (2, .int (iZ w))] rfl ?_
        refine z_iload_n mx mb dX4_dispatch_34 rfl 3 rfl ?_
        refine z_lookup (off := 45) (tgt := 80) mx mb (by omega) dX4_dispatch_35 (by decide) (by show Op.lookupswitch.offset [(0, 25), (1, 35)] _ _ = _; exact z_look2 (by omega) (by omega)) (by decide) ?_
        rw [hQ]
        subst hw0
        exact z_throwS thrA mx mb hl0 mml mo (mts _ (List.mem_of_getElem? (i := 3) rfl)) (mts _ (List.mem_of_getElem? (i := 4) rfl)) (fun w hw => mts w (List.mem_cons_of_mem _ (List.mem_append_right _ hw))) hK hE (List.mem_of_getElem? (i := 10) rfl) hXt mlk dX4_dispatch_80 dX4_dispatch_83 dX4_dispatch_84 dX4_dispatch_86 dX4_dispatch_89 (Nat.le_of_ble_eq_true rfl) (Nat.le_of_ble_eq_true rfl) (Nat.le_of_ble_eq_true rfl) ⟨Nat.le_refl _, Nat.le_refl _⟩ ⟨Nat.le_refl _, Nat.le_refl _⟩
      · skip
        exact absurd c12 (by omega)
  subst hQ
  subst hw0
  exact hstart

set_option maxRecDepth 100000 in
set_option maxHeartbeats 4000000 in
theorem c_X4_why_t1 (l : Launch) (hl0 : l.stackTraces = false) (D : va_G) (sz : Nat) (y : Nat → ClassId) (o : Nat → Nat) (a : Nat → Nat → Nat) (S : Nat → Nat → Int → Int) (tb : Nat → Nat) (x : Int → Int) (ln sc : Int) (f : Int → Int) (t : Int) (hR : Rel f (S 0)) (hI : Inv 100000 f) (kp : Kp f) (h9t : -2147483648 ≤ t ∧ t ≤ 2147483647) (ht : ¬ (0 ≤ t ∧ t < f 2)) : vx_Met l yX4_why wsX4_why ({ frames := 7, cells := 1, slots := 6, locals := 111 } : Room) (zPe D vwCl (zT y) (wBq y o a S tb x ln sc (sav a) p6) sz [.ref (o 0), .int (iZ t)]) zNo (zXc "java/lang/IndexOutOfBoundsException" D vwCl (zT y) (wBq y o a S tb x ln sc (sav a) p6) sz) 1 6 (va_A (wBq y o a S tb x ln sc (sav a) p6) sz) := by
  refine z_headX (cc := cX4_why) (maxL := 2) (ret := (some .int)) [(0, .ref (o 0)), (1, .int (iZ t))] rfl (Nat.le_of_ble_eq_true rfl) (by decide +kernel) rfl ?_
  intro pp ee ss mm below meth cd mx mb mr mml mo mts mlk hK hname hsz hA hE hXt
  generalize ([.ref (o 0), .int (iZ t)] : List Value).toArray = args at mts ⊢
  obtain ⟨wst, hw0⟩ : ∃ wst, wst = wBq y o a S tb x ln sc (sav a) p6 := ⟨_, rfl⟩
  replace hE : zE (va_A wst sz) ss ss.heap := by rw [hw0]; exact hE
  replace hA : ∀ q, ss.heap.size ≤ q → va_A wst sz q := by rw [hw0]; exact hA
  obtain ⟨Q, hQ⟩ : ∃ Q, Q = vx_MQ below zNo (zXc "java/lang/IndexOutOfBoundsException" D vwCl (zT y) wst sz) args ss 1 6 (va_A wst sz) := ⟨_, rfl⟩
  have hstart : Gz pp l ee ({ frames := 7, cells := 1, slots := 6, locals := 111 } : Room) ss mm args below meth cd 2 0 0 Q (Zw D vwCl (va_A wst sz) ss (wBq y o a S tb x ln sc (sav a) p6)) 0 [(0, .ref (o 0)), (1, .int (iZ t))] [] := by
    obtain ⟨hW, hN, hT⟩ := (Inv_Jy hI).f
    obtain ⟨w0, w1, w2, w3, w4, w5, w6⟩ := id hW
    obtain ⟨n3, n4, n5, n6, n7, n8, n9, n10⟩ := id hN
    obtain ⟨⟨r0, r1, r2, r3, r4⟩, rc, rb, ⟨s0, s1, s2, s3⟩, rt, rl⟩ := id hR
    refine z_aload_n mx mb dX4_why_0 rfl 0 rfl ?_
    refine z_iload_n mx mb dX4_why_1 rfl 1 rfl ?_
    rw [hQ]
    subst hw0
    exact z_callX (As := [.int (iZ t)]) (rest := []) ⟨mx, mb, mml, mo, mts⟩ hK hA hE (fun sz => c_X4_requireTrain_t l hl0 D sz y o a S tb x ln sc f t hR hI kp (by assumption) (by assumption)) (cwV 1 mts gX4_why_X4_requireTrain rfl rfl rfl (by decide +kernel) ⟨Nat.le_of_ble_eq_true rfl, Nat.le_of_ble_eq_true rfl⟩) 0 wB_0 rfl rfl rfl rfl (Nat.le_of_ble_eq_true rfl) ⟨Nat.le_refl _, Nat.le_refl _⟩ ⟨Nat.le_refl _, Nat.le_refl _⟩ dX4_why_2 hXt mlk
  subst hQ
  subst hw0
  exact hstart

set_option maxRecDepth 100000 in
set_option maxHeartbeats 4000000 in
theorem c_X4_ticksToStation_t1 (l : Launch) (hl0 : l.stackTraces = false) (D : va_G) (sz : Nat) (y : Nat → ClassId) (o : Nat → Nat) (a : Nat → Nat → Nat) (S : Nat → Nat → Int → Int) (tb : Nat → Nat) (x : Int → Int) (ln sc : Int) (f : Int → Int) (t : Int) (hR : Rel f (S 0)) (hI : Inv 100000 f) (kp : Kp f) (h9t : -2147483648 ≤ t ∧ t ≤ 2147483647) (ht : ¬ (0 ≤ t ∧ t < f 2)) : vx_Met l yX4_ticksToStation wsX4_ticksToStation ({ frames := 7, cells := 1, slots := 6, locals := 111 } : Room) (zPe D vwCl (zT y) (wBq y o a S tb x ln sc (sav a) p6) sz [.ref (o 0), .int (iZ t)]) zNo (zXc "java/lang/IndexOutOfBoundsException" D vwCl (zT y) (wBq y o a S tb x ln sc (sav a) p6) sz) 1 6 (va_A (wBq y o a S tb x ln sc (sav a) p6) sz) := by
  refine z_headX (cc := cX4_ticksToStation) (maxL := 4) (ret := (some .int)) [(0, .ref (o 0)), (1, .int (iZ t))] rfl (Nat.le_of_ble_eq_true rfl) (by decide +kernel) rfl ?_
  intro pp ee ss mm below meth cd mx mb mr mml mo mts mlk hK hname hsz hA hE hXt
  generalize ([.ref (o 0), .int (iZ t)] : List Value).toArray = args at mts ⊢
  obtain ⟨wst, hw0⟩ : ∃ wst, wst = wBq y o a S tb x ln sc (sav a) p6 := ⟨_, rfl⟩
  replace hE : zE (va_A wst sz) ss ss.heap := by rw [hw0]; exact hE
  replace hA : ∀ q, ss.heap.size ≤ q → va_A wst sz q := by rw [hw0]; exact hA
  obtain ⟨Q, hQ⟩ : ∃ Q, Q = vx_MQ below zNo (zXc "java/lang/IndexOutOfBoundsException" D vwCl (zT y) wst sz) args ss 1 6 (va_A wst sz) := ⟨_, rfl⟩
  have hstart : Gz pp l ee ({ frames := 7, cells := 1, slots := 6, locals := 111 } : Room) ss mm args below meth cd 4 0 0 Q (Zw D vwCl (va_A wst sz) ss (wBq y o a S tb x ln sc (sav a) p6)) 0 [(0, .ref (o 0)), (1, .int (iZ t))] [] := by
    obtain ⟨hW, hN, hT⟩ := (Inv_Jy hI).f
    obtain ⟨w0, w1, w2, w3, w4, w5, w6⟩ := id hW
    obtain ⟨n3, n4, n5, n6, n7, n8, n9, n10⟩ := id hN
    obtain ⟨⟨r0, r1, r2, r3, r4⟩, rc, rb, ⟨s0, s1, s2, s3⟩, rt, rl⟩ := id hR
    refine z_aload_n mx mb dX4_ticksToStation_0 rfl 0 rfl ?_
    refine z_iload_n mx mb dX4_ticksToStation_1 rfl 1 rfl ?_
    rw [hQ]
    subst hw0
    exact z_callX (As := [.int (iZ t)]) (rest := []) ⟨mx, mb, mml, mo, mts⟩ hK hA hE (fun sz => c_X4_requireTrain_t l hl0 D sz y o a S tb x ln sc f t hR hI kp (by assumption) (by assumption)) (cwV 1 mts gX4_ticksToStation_X4_requireTrain rfl rfl rfl (by decide +kernel) ⟨Nat.le_of_ble_eq_true rfl, Nat.le_of_ble_eq_true rfl⟩) 0 wB_0 rfl rfl rfl rfl (Nat.le_of_ble_eq_true rfl) ⟨Nat.le_refl _, Nat.le_refl _⟩ ⟨Nat.le_refl _, Nat.le_refl _⟩ dX4_ticksToStation_2 hXt mlk
  subst hQ
  subst hw0
  exact hstart

set_option maxRecDepth 100000 in
set_option maxHeartbeats 4000000 in
theorem c_X4_leastSquare_t1 (l : Launch) (hl0 : l.stackTraces = false) (D : va_G) (sz : Nat) (y : Nat → ClassId) (o : Nat → Nat) (a : Nat → Nat → Nat) (S : Nat → Nat → Int → Int) (tb : Nat → Nat) (x : Int → Int) (ln sc : Int) (f : Int → Int) (c : Int) (hR : Rel f (S 0)) (hI : Inv 100000 f) (kp : Kp f) (h9c : -2147483648 ≤ c ∧ c ≤ 2147483647) (hc : ¬ (0 ≤ c ∧ c < f 0)) : vx_Met l yX4_leastSquare wsX4_leastSquare ({ frames := 7, cells := 1, slots := 6, locals := 111 } : Room) (zPe D vwCl (zT y) (wBq y o a S tb x ln sc (sav a) p6) sz [.ref (o 0), .int (iZ c)]) zNo (zXc "java/lang/IndexOutOfBoundsException" D vwCl (zT y) (wBq y o a S tb x ln sc (sav a) p6) sz) 1 6 (va_A (wBq y o a S tb x ln sc (sav a) p6) sz) := by
  refine z_headX (cc := cX4_leastSquare) (maxL := 2) (ret := (some .int)) [(0, .ref (o 0)), (1, .int (iZ c))] rfl (Nat.le_of_ble_eq_true rfl) (by decide +kernel) rfl ?_
  intro pp ee ss mm below meth cd mx mb mr mml mo mts mlk hK hname hsz hA hE hXt
  generalize ([.ref (o 0), .int (iZ c)] : List Value).toArray = args at mts ⊢
  obtain ⟨wst, hw0⟩ : ∃ wst, wst = wBq y o a S tb x ln sc (sav a) p6 := ⟨_, rfl⟩
  replace hE : zE (va_A wst sz) ss ss.heap := by rw [hw0]; exact hE
  replace hA : ∀ q, ss.heap.size ≤ q → va_A wst sz q := by rw [hw0]; exact hA
  obtain ⟨Q, hQ⟩ : ∃ Q, Q = vx_MQ below zNo (zXc "java/lang/IndexOutOfBoundsException" D vwCl (zT y) wst sz) args ss 1 6 (va_A wst sz) := ⟨_, rfl⟩
  have hstart : Gz pp l ee ({ frames := 7, cells := 1, slots := 6, locals := 111 } : Room) ss mm args below meth cd 2 0 0 Q (Zw D vwCl (va_A wst sz) ss (wBq y o a S tb x ln sc (sav a) p6)) 0 [(0, .ref (o 0)), (1, .int (iZ c))] [] := by
    obtain ⟨hW, hN, hT⟩ := (Inv_Jy hI).f
    obtain ⟨w0, w1, w2, w3, w4, w5, w6⟩ := id hW
    obtain ⟨n3, n4, n5, n6, n7, n8, n9, n10⟩ := id hN
    obtain ⟨⟨r0, r1, r2, r3, r4⟩, rc, rb, ⟨s0, s1, s2, s3⟩, rt, rl⟩ := id hR
    refine z_aload_n mx mb dX4_leastSquare_0 rfl 0 rfl ?_
    refine z_iload_n mx mb dX4_leastSquare_1 rfl 1 rfl ?_
    rw [hQ]
    subst hw0
    exact z_callX (As := [.int (iZ c)]) (rest := []) ⟨mx, mb, mml, mo, mts⟩ hK hA hE (fun sz => c_X4_requireCell_t l hl0 D sz y o a S tb x ln sc f c hR hI kp (by assumption) (by assumption)) (cwV 1 mts gX4_leastSquare_X4_requireCell rfl rfl rfl (by decide +kernel) ⟨Nat.le_of_ble_eq_true rfl, Nat.le_of_ble_eq_true rfl⟩) 0 wB_0 rfl rfl rfl rfl (Nat.le_of_ble_eq_true rfl) ⟨Nat.le_refl _, Nat.le_refl _⟩ ⟨Nat.le_refl _, Nat.le_refl _⟩ dX4_leastSquare_2 hXt mlk
  subst hQ
  subst hw0
  exact hstart

set_option maxRecDepth 100000 in
set_option maxHeartbeats 4000000 in
theorem c_X4_dispatchesWith_t (l : Launch) (hl0 : l.stackTraces = false) (D : va_G) (sz : Nat) (y : Nat → ClassId) (o : Nat → Nat) (a : Nat → Nat → Nat) (S : Nat → Nat → Int → Int) (tb : Nat → Nat) (x : Int → Int) (ln sc : Int) (f : Int → Int) (gp : Int) (hR : Rel f (S 0)) (hI : Inv 100000 f) (kp : Kp f) (h9gp : -2147483648 ≤ gp ∧ gp ≤ 2147483647) (hg : ¬ (0 ≤ gp ∧ gp ≤ 500)) : vx_Met l yX4_dispatchesWith wsX4_dispatchesWith ({ frames := 6, cells := 1, slots := 6, locals := 90 } : Room) (zPe D vwCl (zT y) (wBq y o a S tb x ln sc (sav a) p6) sz [.ref (o 0), .int (iZ gp)]) zNo (zXc "java/lang/IllegalArgumentException" D vwCl (zT y) (wBq y o a S tb x ln sc (sav a) p6) sz) 1 6 (va_A (wBq y o a S tb x ln sc (sav a) p6) sz) := by
  refine z_headX (cc := cX4_dispatchesWith) (maxL := 3) (ret := (some .int)) [(0, .ref (o 0)), (1, .int (iZ gp))] rfl (Nat.le_of_ble_eq_true rfl) (by decide +kernel) rfl ?_
  intro pp ee ss mm below meth cd mx mb mr mml mo mts mlk hK hname hsz hA hE hXt
  generalize ([.ref (o 0), .int (iZ gp)] : List Value).toArray = args at mts ⊢
  obtain ⟨wst, hw0⟩ : ∃ wst, wst = wBq y o a S tb x ln sc (sav a) p6 := ⟨_, rfl⟩
  replace hE : zE (va_A wst sz) ss ss.heap := by rw [hw0]; exact hE
  replace hA : ∀ q, ss.heap.size ≤ q → va_A wst sz q := by rw [hw0]; exact hA
  obtain ⟨Q, hQ⟩ : ∃ Q, Q = vx_MQ below zNo (zXc "java/lang/IllegalArgumentException" D vwCl (zT y) wst sz) args ss 1 6 (va_A wst sz) := ⟨_, rfl⟩
  have hstart : Gz pp l ee ({ frames := 6, cells := 1, slots := 6, locals := 90 } : Room) ss mm args below meth cd 3 0 0 Q (Zw D vwCl (va_A wst sz) ss (wBq y o a S tb x ln sc (sav a) p6)) 0 [(0, .ref (o 0)), (1, .int (iZ gp))] [] := by
    obtain ⟨hW, hN, hT⟩ := (Inv_Jy hI).f
    obtain ⟨w0, w1, w2, w3, w4, w5, w6⟩ := id hW
    obtain ⟨n3, n4, n5, n6, n7, n8, n9, n10⟩ := id hN
    obtain ⟨⟨r0, r1, r2, r3, r4⟩, rc, rb, ⟨s0, s1, s2, s3⟩, rt, rl⟩ := id hR
    refine z_iload_n mx mb dX4_dispatchesWith_0 rfl 1 rfl ?_
    refine z_row mx mb hE.2.1.1 mo (mts _ (List.mem_of_getElem? (i := 3) rfl)) (fun _ h9 => h9) dX4_dispatchesWith_1 (fun t1 ht1 => ?_)
    refine z_iconst mx mb dX4_dispatchesWith_4 ?_
    refine z_rowAt mx mb ht1 (by omega) dX4_dispatchesWith_5 ?_
    refine z_top (show st4 0 1 0 0 2 = 0 from rfl) ?_
    refine z_icmp_lt (tgt := 18) mx mb (by omega) (by omega) dX4_dispatchesWith_6 (by decide) (fun c6 => ?_) (fun c6 => ?_)
    · skip
      rw [hQ]
      subst hw0
      exact z_throwS thrA mx mb hl0 mml mo (mts _ (List.mem_of_getElem? (i := 1) rfl)) (mts _ (List.mem_of_getElem? (i := 2) rfl)) (fun w hw => mts w (List.mem_cons_of_mem _ (List.mem_append_right _ hw))) hK hE (List.mem_of_getElem? (i := 11) rfl) hXt mlk dX4_dispatchesWith_18 dX4_dispatchesWith_21 dX4_dispatchesWith_22 dX4_dispatchesWith_24 dX4_dispatchesWith_27 (Nat.le_of_ble_eq_true rfl) (Nat.le_of_ble_eq_true rfl) (Nat.le_of_ble_eq_true rfl) ⟨Nat.le_refl _, Nat.le_refl _⟩ ⟨Nat.le_refl _, Nat.le_refl _⟩
    · skip
      refine z_iload_n mx mb dX4_dispatchesWith_9 rfl 1 rfl ?_
      refine z_row mx mb hE.2.1.2.1 mo (mts _ (List.mem_of_getElem? (i := 4) rfl)) (fun _ h9 => h9) dX4_dispatchesWith_10 (fun t10 ht10 => ?_)
      refine z_iconst mx mb dX4_dispatchesWith_13 ?_
      refine z_rowAt mx mb ht10 (by omega) dX4_dispatchesWith_14 ?_
      refine z_top (show st4 20 50 500 40 2 = 500 from rfl) ?_
      refine z_icmp_le (tgt := 28) mx mb (by omega) (by omega) dX4_dispatchesWith_15 (by decide) (fun c15 => ?_) (fun c15 => ?_)
      · skip
        exact absurd c15 (by omega)
      · skip
        rw [hQ]
        subst hw0
        exact z_throwS thrA mx mb hl0 mml mo (mts _ (List.mem_of_getElem? (i := 1) rfl)) (mts _ (List.mem_of_getElem? (i := 2) rfl)) (fun w hw => mts w (List.mem_cons_of_mem _ (List.mem_append_right _ hw))) hK hE (List.mem_of_getElem? (i := 11) rfl) hXt mlk dX4_dispatchesWith_18 dX4_dispatchesWith_21 dX4_dispatchesWith_22 dX4_dispatchesWith_24 dX4_dispatchesWith_27 (Nat.le_of_ble_eq_true rfl) (Nat.le_of_ble_eq_true rfl) (Nat.le_of_ble_eq_true rfl) ⟨Nat.le_refl _, Nat.le_refl _⟩ ⟨Nat.le_refl _, Nat.le_refl _⟩
  subst hQ
  subst hw0
  exact hstart

set_option maxRecDepth 100000 in
set_option maxHeartbeats 4000000 in
theorem c_X4_append_t1 (l : Launch) (hl0 : l.stackTraces = false) (D : va_G) (sz : Nat) (y : Nat → ClassId) (o : Nat → Nat) (a : Nat → Nat → Nat) (S : Nat → Nat → Int → Int) (tb : Nat → Nat) (x : Int → Int) (ln sc : Int) (f : Int → Int) (v : Int) (hR : Rel f (S 0)) (hI : Inv 100000 f) (kp : Kp f) (h9v : -2147483648 ≤ v ∧ v ≤ 2147483647) (hv : ¬ (0 ≤ v ∧ v ≤ 127)) : vx_Met l yX4_append wsX4_append ({ frames := 6, cells := 1, slots := 6, locals := 90 } : Room) (zPe D vwCl (zT y) (wBq y o a S tb x ln sc (sav a) p6) sz [.ref (o 0), .int (iZ v)]) zNo (zXc "java/lang/IllegalArgumentException" D vwCl (zT y) (wBq y o a S tb x ln sc (sav a) p6) sz) 1 6 (va_A (wBq y o a S tb x ln sc (sav a) p6) sz) := by
  refine z_headX (cc := cX4_append) (maxL := 2) (ret := (some .int)) [(0, .ref (o 0)), (1, .int (iZ v))] rfl (Nat.le_of_ble_eq_true rfl) (by decide +kernel) rfl ?_
  intro pp ee ss mm below meth cd mx mb mr mml mo mts mlk hK hname hsz hA hE hXt
  generalize ([.ref (o 0), .int (iZ v)] : List Value).toArray = args at mts ⊢
  obtain ⟨wst, hw0⟩ : ∃ wst, wst = wBq y o a S tb x ln sc (sav a) p6 := ⟨_, rfl⟩
  replace hE : zE (va_A wst sz) ss ss.heap := by rw [hw0]; exact hE
  replace hA : ∀ q, ss.heap.size ≤ q → va_A wst sz q := by rw [hw0]; exact hA
  obtain ⟨Q, hQ⟩ : ∃ Q, Q = vx_MQ below zNo (zXc "java/lang/IllegalArgumentException" D vwCl (zT y) wst sz) args ss 1 6 (va_A wst sz) := ⟨_, rfl⟩
  have hstart : Gz pp l ee ({ frames := 6, cells := 1, slots := 6, locals := 90 } : Room) ss mm args below meth cd 2 0 0 Q (Zw D vwCl (va_A wst sz) ss (wBq y o a S tb x ln sc (sav a) p6)) 0 [(0, .ref (o 0)), (1, .int (iZ v))] [] := by
    obtain ⟨hW, hN, hT⟩ := (Inv_Jy hI).f
    obtain ⟨w0, w1, w2, w3, w4, w5, w6⟩ := id hW
    obtain ⟨n3, n4, n5, n6, n7, n8, n9, n10⟩ := id hN
    obtain ⟨⟨r0, r1, r2, r3, r4⟩, rc, rb, ⟨s0, s1, s2, s3⟩, rt, rl⟩ := id hR
    refine z_iload_n mx mb dX4_append_0 rfl 1 rfl ?_
    refine z_if_lt (tgt := 10) mx mb (by omega) dX4_append_1 (by decide) (fun c1 => ?_) (fun c1 => ?_)
    · skip
      rw [hQ]
      subst hw0
      exact z_throwSW thrA mx mb hl0 mml mo (mts _ (List.mem_of_getElem? (i := 1) rfl)) (mts _ (List.mem_of_getElem? (i := 2) rfl)) (fun w hw => mts w (List.mem_cons_of_mem _ (List.mem_append_left _ (List.mem_append_right _ hw)))) hK hE (List.mem_of_getElem? (i := 12) rfl) hXt mlk dX4_append_10 dX4_append_13 dX4_append_14 dX4_append_17 dX4_append_20 (Nat.le_of_ble_eq_true rfl) (Nat.le_of_ble_eq_true rfl) (Nat.le_of_ble_eq_true rfl) ⟨Nat.le_refl _, Nat.le_refl _⟩ ⟨Nat.le_refl _, Nat.le_refl _⟩
    · skip
      refine z_iload_n mx mb dX4_append_4 rfl 1 rfl ?_
      refine z_bipush mx mb dX4_append_5 (by decide +kernel) ?_
      refine z_icmp_le (tgt := 21) mx mb (by omega) (by omega) dX4_append_7 (by decide) (fun c7 => ?_) (fun c7 => ?_)
      · skip
        exact absurd c7 (by omega)
      · skip
        rw [hQ]
        subst hw0
        exact z_throwSW thrA mx mb hl0 mml mo (mts _ (List.mem_of_getElem? (i := 1) rfl)) (mts _ (List.mem_of_getElem? (i := 2) rfl)) (fun w hw => mts w (List.mem_cons_of_mem _ (List.mem_append_left _ (List.mem_append_right _ hw)))) hK hE (List.mem_of_getElem? (i := 12) rfl) hXt mlk dX4_append_10 dX4_append_13 dX4_append_14 dX4_append_17 dX4_append_20 (Nat.le_of_ble_eq_true rfl) (Nat.le_of_ble_eq_true rfl) (Nat.le_of_ble_eq_true rfl) ⟨Nat.le_refl _, Nat.le_refl _⟩ ⟨Nat.le_refl _, Nat.le_refl _⟩
  subst hQ
  subst hw0
  exact hstart

set_option maxRecDepth 100000 in
set_option maxHeartbeats 4000000 in
theorem c_X4_append_t2 (l : Launch) (hl0 : l.stackTraces = false) (D : va_G) (sz : Nat) (y : Nat → ClassId) (o : Nat → Nat) (a : Nat → Nat → Nat) (S : Nat → Nat → Int → Int) (tb : Nat → Nat) (x : Int → Int) (ln sc : Int) (f : Int → Int) (v : Int) (hR : Rel f (S 0)) (hI : Inv 100000 f) (kp : Kp f) (hv : 0 ≤ v ∧ v ≤ 127) (hl : ln = 90) : vx_Met l yX4_append wsX4_append ({ frames := 6, cells := 1, slots := 6, locals := 90 } : Room) (zPe D vwCl (zT y) (wBq y o a S tb x ln sc (sav a) p6) sz [.ref (o 0), .int (iZ v)]) zNo (zXc "java/lang/IllegalStateException" D vwCl (zT y) (wBq y o a S tb x ln sc (sav a) p6) sz) 1 6 (va_A (wBq y o a S tb x ln sc (sav a) p6) sz) := by
  refine z_headX (cc := cX4_append) (maxL := 2) (ret := (some .int)) [(0, .ref (o 0)), (1, .int (iZ v))] rfl (Nat.le_of_ble_eq_true rfl) (by decide +kernel) rfl ?_
  intro pp ee ss mm below meth cd mx mb mr mml mo mts mlk hK hname hsz hA hE hXt
  generalize ([.ref (o 0), .int (iZ v)] : List Value).toArray = args at mts ⊢
  obtain ⟨wst, hw0⟩ : ∃ wst, wst = wBq y o a S tb x ln sc (sav a) p6 := ⟨_, rfl⟩
  replace hE : zE (va_A wst sz) ss ss.heap := by rw [hw0]; exact hE
  replace hA : ∀ q, ss.heap.size ≤ q → va_A wst sz q := by rw [hw0]; exact hA
  obtain ⟨Q, hQ⟩ : ∃ Q, Q = vx_MQ below zNo (zXc "java/lang/IllegalStateException" D vwCl (zT y) wst sz) args ss 1 6 (va_A wst sz) := ⟨_, rfl⟩
  have hstart : Gz pp l ee ({ frames := 6, cells := 1, slots := 6, locals := 90 } : Room) ss mm args below meth cd 2 0 0 Q (Zw D vwCl (va_A wst sz) ss (wBq y o a S tb x ln sc (sav a) p6)) 0 [(0, .ref (o 0)), (1, .int (iZ v))] [] := by
    obtain ⟨hW, hN, hT⟩ := (Inv_Jy hI).f
    obtain ⟨w0, w1, w2, w3, w4, w5, w6⟩ := id hW
    obtain ⟨n3, n4, n5, n6, n7, n8, n9, n10⟩ := id hN
    obtain ⟨⟨r0, r1, r2, r3, r4⟩, rc, rb, ⟨s0, s1, s2, s3⟩, rt, rl⟩ := id hR
    refine z_iload_n mx mb dX4_append_0 rfl 1 rfl ?_
    refine z_if_lt (tgt := 10) mx mb (by omega) dX4_append_1 (by decide) (fun c1 => ?_) (fun c1 => ?_)
    · skip
      exact absurd c1 (by omega)
    · skip
      refine z_iload_n mx mb dX4_append_4 rfl 1 rfl ?_
      refine z_bipush mx mb dX4_append_5 (by decide +kernel) ?_
      refine z_icmp_le (tgt := 21) mx mb (by omega) (by omega) dX4_append_7 (by decide) (fun c7 => ?_) (fun c7 => ?_)
      · skip
        refine z_aload_n mx mb dX4_append_21 rfl 0 rfl ?_
        refine z_get (C := RX4) (T := TX4) (N := 5) mx mb mts (in_X4_append_X4) mo hK zgw 0 wB_0 rfl 3 (by decide) (mts _ (List.mem_of_getElem? (i := 5) rfl)) (fun _ h9 => h9) rfl dX4_append_22 ?_
        refine z_get (C := RX2) (T := TX2) (N := 2) mx mb mts (in_X4_append_X2) mo hK zgw 2 wB_2 rfl 1 (by decide) (mts _ (List.mem_of_getElem? (i := 6) rfl)) (fun _ h9 => h9) rfl dX4_append_25 ?_
        refine z_bipush mx mb dX4_append_28 (by decide +kernel) ?_
        refine z_icmp_ne (tgt := 44) mx mb (by omega) (by omega) dX4_append_30 (by decide) (fun c30 => ?_) (fun c30 => ?_)
        · skip
          exact absurd c30 (by omega)
        · skip
          rw [hQ]
          subst hw0
          exact z_throwSW thrS mx mb hl0 mml mo (mts _ (List.mem_of_getElem? (i := 3) rfl)) (mts _ (List.mem_of_getElem? (i := 4) rfl)) (fun w hw => mts w (List.mem_cons_of_mem _ (List.mem_append_right _ hw))) hK hE (List.mem_of_getElem? (i := 13) rfl) hXt mlk dX4_append_33 dX4_append_36 dX4_append_37 dX4_append_40 dX4_append_43 (Nat.le_of_ble_eq_true rfl) (Nat.le_of_ble_eq_true rfl) (Nat.le_of_ble_eq_true rfl) ⟨Nat.le_refl _, Nat.le_refl _⟩ ⟨Nat.le_refl _, Nat.le_refl _⟩
      · skip
        exact absurd c7 (by omega)
  subst hQ
  subst hw0
  exact hstart

set_option maxRecDepth 100000 in
set_option maxHeartbeats 4000000 in
theorem c_X4_undo_t (l : Launch) (hl0 : l.stackTraces = false) (D : va_G) (sz : Nat) (y : Nat → ClassId) (o : Nat → Nat) (a : Nat → Nat → Nat) (S : Nat → Nat → Int → Int) (tb : Nat → Nat) (x : Int → Int) (ln sc : Int) (f : Int → Int) (hR : Rel f (S 0)) (hI : Inv 100000 f) (kp : Kp f) (hsc : sc = 0) : vx_Met l yX4_undo wsX4_undo ({ frames := 6, cells := 1, slots := 6, locals := 90 } : Room) (zPe D vwCl (zT y) (wBq y o a S tb x ln sc (sav a) p6) sz [.ref (o 0)]) zNo (zXc "java/lang/IllegalStateException" D vwCl (zT y) (wBq y o a S tb x ln sc (sav a) p6) sz) 1 6 (va_A (wBq y o a S tb x ln sc (sav a) p6) sz) := by
  refine z_headX (cc := cX4_undo) (maxL := 1) (ret := (some .int)) [(0, .ref (o 0))] rfl (Nat.le_of_ble_eq_true rfl) (by decide +kernel) rfl ?_
  intro pp ee ss mm below meth cd mx mb mr mml mo mts mlk hK hname hsz hA hE hXt
  generalize ([.ref (o 0)] : List Value).toArray = args at mts ⊢
  obtain ⟨wst, hw0⟩ : ∃ wst, wst = wBq y o a S tb x ln sc (sav a) p6 := ⟨_, rfl⟩
  replace hE : zE (va_A wst sz) ss ss.heap := by rw [hw0]; exact hE
  replace hA : ∀ q, ss.heap.size ≤ q → va_A wst sz q := by rw [hw0]; exact hA
  obtain ⟨Q, hQ⟩ : ∃ Q, Q = vx_MQ below zNo (zXc "java/lang/IllegalStateException" D vwCl (zT y) wst sz) args ss 1 6 (va_A wst sz) := ⟨_, rfl⟩
  have hstart : Gz pp l ee ({ frames := 6, cells := 1, slots := 6, locals := 90 } : Room) ss mm args below meth cd 1 0 0 Q (Zw D vwCl (va_A wst sz) ss (wBq y o a S tb x ln sc (sav a) p6)) 0 [(0, .ref (o 0))] [] := by
    obtain ⟨hW, hN, hT⟩ := (Inv_Jy hI).f
    obtain ⟨w0, w1, w2, w3, w4, w5, w6⟩ := id hW
    obtain ⟨n3, n4, n5, n6, n7, n8, n9, n10⟩ := id hN
    obtain ⟨⟨r0, r1, r2, r3, r4⟩, rc, rb, ⟨s0, s1, s2, s3⟩, rt, rl⟩ := id hR
    refine z_aload_n mx mb dX4_undo_0 rfl 0 rfl ?_
    refine z_get (C := RX4) (T := TX4) (N := 5) mx mb mts (in_X4_undo_X4) mo hK zgw 0 wB_0 rfl 4 (by decide) (mts _ (List.mem_of_getElem? (i := 3) rfl)) (fun _ h9 => h9) rfl dX4_undo_1 ?_
    refine z_if_ne (tgt := 18) mx mb (by omega) dX4_undo_4 (by decide) (fun c4 => ?_) (fun c4 => ?_)
    · skip
      exact absurd c4 (by omega)
    · skip
      rw [hQ]
      subst hw0
      exact z_throwSW thrS mx mb hl0 mml mo (mts _ (List.mem_of_getElem? (i := 1) rfl)) (mts _ (List.mem_of_getElem? (i := 2) rfl)) (fun w hw => mts w (List.mem_cons_of_mem _ (List.mem_append_right _ hw))) hK hE (List.mem_of_getElem? (i := 14) rfl) hXt mlk dX4_undo_7 dX4_undo_10 dX4_undo_11 dX4_undo_14 dX4_undo_17 (Nat.le_of_ble_eq_true rfl) (Nat.le_of_ble_eq_true rfl) (Nat.le_of_ble_eq_true rfl) ⟨Nat.le_refl _, Nat.le_refl _⟩ ⟨Nat.le_refl _, Nat.le_refl _⟩
  subst hQ
  subst hw0
  exact hstart
