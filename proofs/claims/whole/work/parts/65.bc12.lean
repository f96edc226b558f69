set_option maxRecDepth 100000 in
set_option maxHeartbeats 4000000 in
theorem c_X4_requireCell_t (l : Launch) (hl0 : l.stackTraces = false) (D : va_G) (sz : Nat) (y : Nat → ClassId) (o : Nat → Nat) (a : Nat → Nat → Nat) (S : Nat → Nat → Int → Int) (tb : Nat → Nat) (x : Int → Int) (ln sc : Int) (f : Int → Int) (c : Int) (hR : Rel f (S 0)) (hI : Inv 100000 f) (kp : Kp f) (h9c : -2147483648 ≤ c ∧ c ≤ 2147483647) (hc : ¬ (0 ≤ c ∧ c < f 0)) : vx_Met l yX4_requireCell wsX4_requireCell ({ frames := 6, cells := 1, slots := 6, locals := 90 } : Room) (zPe D vwCl (zT y) (wBq y o a S tb x ln sc (sav a) p6) sz [.ref (o 0), .int (iZ c)]) zNo (zXc "java/lang/IndexOutOfBoundsException" D vwCl (zT y) (wBq y o a S tb x ln sc (sav a) p6) sz) 1 6 (va_A (wBq y o a S tb x ln sc (sav a) p6) sz) := by
  refine z_headX (cc := cX4_requireCell) (maxL := 2) (ret := none) [(0, .ref (o 0)), (1, .int (iZ c))] rfl (Nat.le_of_ble_eq_true rfl) (by decide +kernel) rfl ?_
  intro pp ee ss mm below meth cd mx mb mr mml mo mts mlk hK hname hsz hA hE hXt
  generalize ([.ref (o 0), .int (iZ c)] : List Value).toArray = args at mts ⊢
  obtain ⟨wst, hw0⟩ : ∃ wst, wst = wBq y o a S tb x ln sc (sav a) p6 := ⟨_, rfl⟩
  replace hE : zE (va_A wst sz) ss ss.heap := by rw [hw0]; exact hE
  replace hA : ∀ q, ss.heap.size ≤ q → va_A wst sz q := by rw [hw0]; exact hA
  obtain ⟨Q, hQ⟩ : ∃ Q, Q = vx_MQ below zNo (zXc "java/lang/IndexOutOfBoundsException" D vwCl (zT y) wst sz) args ss 1 6 (va_A wst sz) := ⟨_, rfl⟩
  have hstart : Gz pp l ee ({ frames := 6, cells := 1, slots := 6, locals := 90 } : Room) ss mm args below meth cd 2 0 0 Q (Zw D vwCl (va_A wst sz) ss (wBq y o a S tb x ln sc (sav a) p6)) 0 [(0, .ref (o 0)), (1, .int (iZ c))] [] := by
    obtain ⟨hW, hN, hT⟩ := (Inv_Jy hI).f
    obtain ⟨w0, w1, w2, w3, w4, w5, w6⟩ := id hW
    obtain ⟨n3, n4, n5, n6, n7, n8, n9, n10⟩ := id hN
    obtain ⟨⟨r0, r1, r2, r3, r4⟩, rc, rb, ⟨s0, s1, s2, s3⟩, rt, rl⟩ := id hR
    refine z_iload_n mx mb dX4_requireCell_0 rfl 1 rfl ?_
    refine z_if_lt (tgt := 18) mx mb (by omega) dX4_requireCell_1 (by decide) (fun c1 => ?_) (fun c1 => ?_)
    · skip
      rw [hQ]
      subst hw0
      exact z_throwSW thrI mx mb hl0 mml mo (mts _ (List.mem_of_getElem? (i := 1) rfl)) (mts _ (List.mem_of_getElem? (i := 2) rfl)) (fun w hw => mts w (List.mem_cons_of_mem _ (List.mem_append_right _ hw))) hK hE (List.mem_of_getElem? (i := 16) rfl) hXt mlk dX4_requireCell_18 dX4_requireCell_21 dX4_requireCell_22 dX4_requireCell_25 dX4_requireCell_28 (Nat.le_of_ble_eq_true rfl) (Nat.le_of_ble_eq_true rfl) (Nat.le_of_ble_eq_true rfl) ⟨Nat.le_refl _, Nat.le_refl _⟩ ⟨Nat.le_refl _, Nat.le_refl _⟩
    · skip
      refine z_iload_n mx mb dX4_requireCell_4 rfl 1 rfl ?_
      refine z_aload_n mx mb dX4_requireCell_5 rfl 0 rfl ?_
      refine z_get (C := RX4) (T := TX4) (N := 5) mx mb mts (in_X4_requireCell_X4) mo hK zgw 0 wB_0 rfl 0 (by decide) (mts _ (List.mem_of_getElem? (i := 3) rfl)) (fun _ h9 => h9) rfl dX4_requireCell_6 ?_
      refine z_get (C := RX0) (T := TX0) (N := 9) mx mb mts (in_X4_requireCell_X0) mo hK zgw (4 + 15 * 0 + 0) ((wB_get 0 0 (by omega) (by omega)).trans wR_0) rfl 0 (by decide) (mts _ (List.mem_of_getElem? (i := 4) rfl)) (fun _ h9 => h9) rfl dX4_requireCell_9 ?_
      refine z_get (C := RX1) (T := TX1) (N := 6) mx mb mts (in_X4_requireCell_X1) mo hK zgw (4 + 15 * 0 + 1) ((wB_get 0 1 (by omega) (by omega)).trans wR_1) rfl 4 (by decide) (mts _ (List.mem_of_getElem? (i := 5) rfl)) (fun _ h9 => h9) rfl dX4_requireCell_12 ?_
      refine z_top (show (S 0) 1 0 = f 0 from by exact r0) ?_
      refine z_icmp_lt (tgt := 29) mx mb (by omega) (by omega) dX4_requireCell_15 (by decide) (fun c15 => ?_) (fun c15 => ?_)
      · skip
        exact absurd c15 (by omega)
      · skip
        rw [hQ]
        subst hw0
        exact z_throwSW thrI mx mb hl0 mml mo (mts _ (List.mem_of_getElem? (i := 1) rfl)) (mts _ (List.mem_of_getElem? (i := 2) rfl)) (fun w hw => mts w (List.mem_cons_of_mem _ (List.mem_append_right _ hw))) hK hE (List.mem_of_getElem? (i := 16) rfl) hXt mlk dX4_requireCell_18 dX4_requireCell_21 dX4_requireCell_22 dX4_requireCell_25 dX4_requireCell_28 (Nat.le_of_ble_eq_true rfl) (Nat.le_of_ble_eq_true rfl) (Nat.le_of_ble_eq_true rfl) ⟨Nat.le_refl _, Nat.le_refl _⟩ ⟨Nat.le_refl _, Nat.le_refl _⟩
  subst hQ
  subst hw0
  exact hstart

set_option maxRecDepth 100000 in
set_option maxHeartbeats 4000000 in
theorem c_X4_requireBlock_t (l : Launch) (hl0 : l.stackTraces = false) (D : va_G) (sz : Nat) (y : Nat → ClassId) (o : Nat → Nat) (a : Nat → Nat → Nat) (S : Nat → Nat → Int → Int) (tb : Nat → Nat) (x : Int → Int) (ln sc : Int) (f : Int → Int) (c : Int) (hR : Rel f (S 0)) (hI : Inv 100000 f) (kp : Kp f) (h9c : -2147483648 ≤ c ∧ c ≤ 2147483647) (hc : ¬ (0 ≤ c ∧ c < f 1)) : vx_Met l yX4_requireBlock wsX4_requireBlock ({ frames := 6, cells := 1, slots := 6, locals := 90 } : Room) (zPe D vwCl (zT y) (wBq y o a S tb x ln sc (sav a) p6) sz [.ref (o 0), .int (iZ c)]) zNo (zXc "java/lang/IndexOutOfBoundsException" D vwCl (zT y) (wBq y o a S tb x ln sc (sav a) p6) sz) 1 6 (va_A (wBq y o a S tb x ln sc (sav a) p6) sz) := by
  refine z_headX (cc := cX4_requireBlock) (maxL := 2) (ret := none) [(0, .ref (o 0)), (1, .int (iZ c))] rfl (Nat.le_of_ble_eq_true rfl) (by decide +kernel) rfl ?_
  intro pp ee ss mm below meth cd mx mb mr mml mo mts mlk hK hname hsz hA hE hXt
  generalize ([.ref (o 0), .int (iZ c)] : List Value).toArray = args at mts ⊢
  obtain ⟨wst, hw0⟩ : ∃ wst, wst = wBq y o a S tb x ln sc (sav a) p6 := ⟨_, rfl⟩
  replace hE : zE (va_A wst sz) ss ss.heap := by rw [hw0]; exact hE
  replace hA : ∀ q, ss.heap.size ≤ q → va_A wst sz q := by rw [hw0]; exact hA
  obtain ⟨Q, hQ⟩ : ∃ Q, Q = vx_MQ below zNo (zXc "java/lang/IndexOutOfBoundsException" D vwCl (zT y) wst sz) args ss 1 6 (va_A wst sz) := ⟨_, rfl⟩
  have hstart : Gz pp l ee ({ frames := 6, cells := 1, slots := 6, locals := 90 } : Room) ss mm args below meth cd 2 0 0 Q (Zw D vwCl (va_A wst sz) ss (wBq y o a S tb x ln sc (sav a) p6)) 0 [(0, .ref (o 0)), (1, .int (iZ c))] [] := by
    obtain ⟨hW, hN, hT⟩ := (Inv_Jy hI).f
    obtain ⟨w0, w1, w2, w3, w4, w5, w6⟩ := id hW
    obtain ⟨n3, n4, n5, n6, n7, n8, n9, n10⟩ := id hN
    obtain ⟨⟨r0, r1, r2, r3, r4⟩, rc, rb, ⟨s0, s1, s2, s3⟩, rt, rl⟩ := id hR
    refine z_iload_n mx mb dX4_requireBlock_0 rfl 1 rfl ?_
    refine z_if_lt (tgt := 18) mx mb (by omega) dX4_requireBlock_1 (by decide) (fun c1 => ?_) (fun c1 => ?_)
    · skip
      rw [hQ]
      subst hw0
      exact z_throwSW thrI mx mb hl0 mml mo (mts _ (List.mem_of_getElem? (i := 1) rfl)) (mts _ (List.mem_of_getElem? (i := 2) rfl)) (fun w hw => mts w (List.mem_cons_of_mem _ (List.mem_append_right _ hw))) hK hE (List.mem_of_getElem? (i := 17) rfl) hXt mlk dX4_requireBlock_18 dX4_requireBlock_21 dX4_requireBlock_22 dX4_requireBlock_25 dX4_requireBlock_28 (Nat.le_of_ble_eq_true rfl) (Nat.le_of_ble_eq_true rfl) (Nat.le_of_ble_eq_true rfl) ⟨Nat.le_refl _, Nat.le_refl _⟩ ⟨Nat.le_refl _, Nat.le_refl _⟩
    · skip
      refine z_iload_n mx mb dX4_requireBlock_4 rfl 1 rfl ?_
      refine z_aload_n mx mb dX4_requireBlock_5 rfl 0 rfl ?_
      refine z_get (C := RX4) (T := TX4) (N := 5) mx mb mts (in_X4_requireBlock_X4) mo hK zgw 0 wB_0 rfl 0 (by decide) (mts _ (List.mem_of_getElem? (i := 3) rfl)) (fun _ h9 => h9) rfl dX4_requireBlock_6 ?_
      refine z_get (C := RX0) (T := TX0) (N := 9) mx mb mts (in_X4_requireBlock_X0) mo hK zgw (4 + 15 * 0 + 0) ((wB_get 0 0 (by omega) (by omega)).trans wR_0) rfl 0 (by decide) (mts _ (List.mem_of_getElem? (i := 4) rfl)) (fun _ h9 => h9) rfl dX4_requireBlock_9 ?_
      refine z_get (C := RX1) (T := TX1) (N := 6) mx mb mts (in_X4_requireBlock_X1) mo hK zgw (4 + 15 * 0 + 1) ((wB_get 0 1 (by omega) (by omega)).trans wR_1) rfl 5 (by decide) (mts _ (List.mem_of_getElem? (i := 5) rfl)) (fun _ h9 => h9) rfl dX4_requireBlock_12 ?_
      refine z_top (show (S 0) 1 1 = f 1 from by exact r1) ?_
      refine z_icmp_lt (tgt := 29) mx mb (by omega) (by omega) dX4_requireBlock_15 (by decide) (fun c15 => ?_) (fun c15 => ?_)
      · skip
        exact absurd c15 (by omega)
      · skip
        rw [hQ]
        subst hw0
        exact z_throwSW thrI mx mb hl0 mml mo (mts _ (List.mem_of_getElem? (i := 1) rfl)) (mts _ (List.mem_of_getElem? (i := 2) rfl)) (fun w hw => mts w (List.mem_cons_of_mem _ (List.mem_append_right _ hw))) hK hE (List.mem_of_getElem? (i := 17) rfl) hXt mlk dX4_requireBlock_18 dX4_requireBlock_21 dX4_requireBlock_22 dX4_requireBlock_25 dX4_requireBlock_28 (Nat.le_of_ble_eq_true rfl) (Nat.le_of_ble_eq_true rfl) (Nat.le_of_ble_eq_true rfl) ⟨Nat.le_refl _, Nat.le_refl _⟩ ⟨Nat.le_refl _, Nat.le_refl _⟩
  subst hQ
  subst hw0
  exact hstart

set_option maxRecDepth 100000 in
set_option maxHeartbeats 4000000 in
theorem c_X4_requireTrain_t (l : Launch) (hl0 : l.stackTraces = false) (D : va_G) (sz : Nat) (y : Nat → ClassId) (o : Nat → Nat) (a : Nat → Nat → Nat) (S : Nat → Nat → Int → Int) (tb : Nat → Nat) (x : Int → Int) (ln sc : Int) (f : Int → Int) (t : Int) (hR : Rel f (S 0)) (hI : Inv 100000 f) (kp : Kp f) (h9t : -2147483648 ≤ t ∧ t ≤ 2147483647) (ht : ¬ (0 ≤ t ∧ t < f 2)) : vx_Met l yX4_requireTrain wsX4_requireTrain ({ frames := 6, cells := 1, slots := 6, locals := 90 } : Room) (zPe D vwCl (zT y) (wBq y o a S tb x ln sc (sav a) p6) sz [.ref (o 0), .int (iZ t)]) zNo (zXc "java/lang/IndexOutOfBoundsException" D vwCl (zT y) (wBq y o a S tb x ln sc (sav a) p6) sz) 1 6 (va_A (wBq y o a S tb x ln sc (sav a) p6) sz) := by
  refine z_headX (cc := cX4_requireTrain) (maxL := 2) (ret := none) [(0, .ref (o 0)), (1, .int (iZ t))] rfl (Nat.le_of_ble_eq_true rfl) (by decide +kernel) rfl ?_
  intro pp ee ss mm below meth cd mx mb mr mml mo mts mlk hK hname hsz hA hE hXt
  generalize ([.ref (o 0), .int (iZ t)] : List Value).toArray = args at mts ⊢
  obtain ⟨wst, hw0⟩ : ∃ wst, wst = wBq y o a S tb x ln sc (sav a) p6 := ⟨_, rfl⟩
  replace hE : zE (va_A wst sz) ss ss.heap := by rw [hw0]; exact hE
  replace hA : ∀ q, ss.heap.size ≤ q → va_A wst sz q := by rw [hw0]; exact hA
  obtain ⟨Q, hQ⟩ : ∃ Q, Q = vx_MQ below zNo (zXc "java/lang/IndexOutOfBoundsException" D vwCl (zT y) wst sz) args ss 1 6 (va_A wst sz) := ⟨_, rfl⟩
  have hstart : Gz pp l ee ({ frames := 6, cells := 1, slots := 6, locals := 90 } : Room) ss mm args below meth cd 2 0 0 Q (Zw D vwCl (va_A wst sz) ss (wBq y o a S tb x ln sc (sav a) p6)) 0 [(0, .ref (o 0)), (1, .int (iZ t))] [] := by
    obtain ⟨hW, hN, hT⟩ := (Inv_Jy hI).f
    obtain ⟨w0, w1, w2, w3, w4, w5, w6⟩ := id hW
    obtain ⟨n3, n4, n5, n6, n7, n8, n9, n10⟩ := id hN
    obtain ⟨⟨r0, r1, r2, r3, r4⟩, rc, rb, ⟨s0, s1, s2, s3⟩, rt, rl⟩ := id hR
    refine z_iload_n mx mb dX4_requireTrain_0 rfl 1 rfl ?_
    refine z_if_lt (tgt := 15) mx mb (by omega) dX4_requireTrain_1 (by decide) (fun c1 => ?_) (fun c1 => ?_)
    · skip
      rw [hQ]
      subst hw0
      exact z_throwSW thrI mx mb hl0 mml mo (mts _ (List.mem_of_getElem? (i := 1) rfl)) (mts _ (List.mem_of_getElem? (i := 2) rfl)) (fun w hw => mts w (List.mem_cons_of_mem _ (List.mem_append_right _ hw))) hK hE (List.mem_of_getElem? (i := 15) rfl) hXt mlk dX4_requireTrain_15 dX4_requireTrain_18 dX4_requireTrain_19 dX4_requireTrain_22 dX4_requireTrain_25 (Nat.le_of_ble_eq_true rfl) (Nat.le_of_ble_eq_true rfl) (Nat.le_of_ble_eq_true rfl) ⟨Nat.le_refl _, Nat.le_refl _⟩ ⟨Nat.le_refl _, Nat.le_refl _⟩
    · skip
      refine z_iload_n mx mb dX4_requireTrain_4 rfl 1 rfl ?_
      refine z_aload_n mx mb dX4_requireTrain_5 rfl 0 rfl ?_
      refine z_get (C := RX4) (T := TX4) (N := 5) mx mb mts (in_X4_requireTrain_X4) mo hK zgw 0 wB_0 rfl 0 (by decide) (mts _ (List.mem_of_getElem? (i := 3) rfl)) (fun _ h9 => h9) rfl dX4_requireTrain_6 ?_
      refine z_get (C := RX0) (T := TX0) (N := 9) mx mb mts (in_X4_requireTrain_X0) mo hK zgw (4 + 15 * 0 + 0) ((wB_get 0 0 (by omega) (by omega)).trans wR_0) rfl 6 (by decide) (mts _ (List.mem_of_getElem? (i := 4) rfl)) (fun _ h9 => h9) rfl dX4_requireTrain_9 ?_
      refine z_top (show (S 0) 0 0 = f 2 from by exact r2) ?_
      refine z_icmp_lt (tgt := 26) mx mb (by omega) (by omega) dX4_requireTrain_12 (by decide) (fun c12 => ?_) (fun c12 => ?_)
      · skip
        exact absurd c12 (by omega)
      · skip
        rw [hQ]
        subst hw0
        exact z_throwSW thrI mx mb hl0 mml mo (mts _ (List.mem_of_getElem? (i := 1) rfl)) (mts _ (List.mem_of_getElem? (i := 2) rfl)) (fun w hw => mts w (List.mem_cons_of_mem _ (List.mem_append_right _ hw))) hK hE (List.mem_of_getElem? (i := 15) rfl) hXt mlk dX4_requireTrain_15 dX4_requireTrain_18 dX4_requireTrain_19 dX4_requireTrain_22 dX4_requireTrain_25 (Nat.le_of_ble_eq_true rfl) (Nat.le_of_ble_eq_true rfl) (Nat.le_of_ble_eq_true rfl) ⟨Nat.le_refl _, Nat.le_refl _⟩ ⟨Nat.le_refl _, Nat.le_refl _⟩
  subst hQ
  subst hw0
  exact hstart
