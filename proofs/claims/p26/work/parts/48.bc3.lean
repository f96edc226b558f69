theorem in_X4_requireCell_X0 : ∀ w ∈ wsX00, w ∈ wsX4_requireCell := by decide +kernel
theorem in_X4_requireCell_X1 : ∀ w ∈ wsX10, w ∈ wsX4_requireCell := by decide +kernel
theorem in_X4_requireCell_X4 : ∀ w ∈ wsX40, w ∈ wsX4_requireCell := by decide +kernel
set_option maxRecDepth 100000 in
set_option maxHeartbeats 4000000 in
theorem c_X4_requireCell (l : Launch) (D : va_G) (sz : Nat) (y : Nat → ClassId) (o : Nat → Nat) (a : Nat → Nat → Nat) (S : Nat → Nat → Int → Int) (tb : Nat → Nat) (x : Int → Int) (ln sc : Int) (f : Int → Int) (c : Int) (hR : Rel f (S 0)) (hI : Inv 100000 f) (kp : Kp f) (hc : 0 ≤ c ∧ c < f 0) : Met l yX4_requireCell wsX4_requireCell ({ frames := 0, cells := 0, slots := 0, locals := 0 } : Room) (zPw D vwCl (zT y) (wBq y o a S tb x ln sc (sav a) p6) sz [.ref (o 0), .int (iZ c)]) (va_Qv (fun _ : Unit => True) (zB D vwCl (zT y) (wBq y o a S tb x ln sc (sav a) p6) sz (fun _ : Unit => wBq y o a S tb x ln sc (sav a) p6)) (va_A (wBq y o a S tb x ln sc (sav a) p6) sz)) 0 0 (va_A (wBq y o a S tb x ln sc (sav a) p6) sz) := by
  refine z_headW (cc := cX4_requireCell) (maxL := 2) (ret := none) [(0, .ref (o 0)), (1, .int (iZ c))] rfl (Nat.le_of_ble_eq_true rfl) (by decide +kernel) rfl ?_
  intro pp ee ss mm below meth cd mx mb mr mml mo mts mlk hK hname hsz hA
  generalize ([.ref (o 0), .int (iZ c)] : List Value).toArray = args at mts ⊢
  obtain ⟨wst, hw0⟩ : ∃ wst, wst = wBq y o a S tb x ln sc (sav a) p6 := ⟨_, rfl⟩
  have hA : ∀ q, ss.heap.size ≤ q → va_A wst sz q := by rw [hw0]; exact hA
  obtain ⟨Q, hQ⟩ : ∃ Q, Q = MQ below (va_Qv (fun _ : Unit => True) (zB D vwCl (zT y) wst sz (fun _ : Unit => wBq y o a S tb x ln sc (sav a) p6)) (va_A wst sz)) args ss 0 0 (va_A wst sz) := ⟨_, rfl⟩
  have hstart : Gz pp l ee ({ frames := 0, cells := 0, slots := 0, locals := 0 } : Room) ss mm args below meth cd 2 0 0 Q (Zw D vwCl (va_A wst sz) ss (wBq y o a S tb x ln sc (sav a) p6)) 0 [(0, .ref (o 0)), (1, .int (iZ c))] [] := by
    obtain ⟨hW, hN, hT⟩ := (Inv_Jy hI).f
    obtain ⟨w0, w1, w2, w3, w4, w5, w6⟩ := id hW
    obtain ⟨n3, n4, n5, n6, n7, n8, n9, n10⟩ := id hN
    obtain ⟨⟨r0, r1, r2, r3, r4⟩, rc, rb, ⟨s0, s1, s2, s3⟩, rt, rl⟩ := id hR
    obtain ⟨kA, hG, hS9⟩ := id kp
    refine z_iload_n mx mb dX4_requireCell_0 rfl 1 rfl ?_
    refine z_if_lt (tgt := 18) mx mb (by omega) dX4_requireCell_1 (by decide) (fun c1 => ?_) (fun c1 => ?_)
    · skip
      exact absurd c1 (by omega)
    · skip
      refine z_iload_n mx mb dX4_requireCell_4 rfl 1 rfl ?_
      refine z_aload_n mx mb dX4_requireCell_5 rfl 0 rfl ?_
      refine z_get (C := RX4) (T := TX4) (N := 5) mx mb mts (in_X4_requireCell_X4) mo hK zgw 0 wB_0 rfl 0 (by decide) (mts _ (List.mem_of_getElem? (i := 3) rfl)) (fun _ h9 => h9) rfl dX4_requireCell_6 ?_
      refine z_get (C := RX0) (T := TX0) (N := 9) mx mb mts (in_X4_requireCell_X0) mo hK zgw (4 + 15 * 0 + 0) ((wB_get 0 0 (by omega) (by omega)).trans wR_0) rfl 0 (by decide) (mts _ (List.mem_of_getElem? (i := 4) rfl)) (fun _ h9 => h9) rfl dX4_requireCell_9 ?_
      refine z_get (C := RX1) (T := TX1) (N := 6) mx mb mts (in_X4_requireCell_X1) mo hK zgw (4 + 15 * 0 + 1) ((wB_get 0 1 (by omega) (by omega)).trans wR_1) rfl 4 (by decide) (mts _ (List.mem_of_getElem? (i := 5) rfl)) (fun _ h9 => h9) rfl dX4_requireCell_12 ?_
      refine z_top (show (S 0) 1 0 = f 0 from by exact r0) ?_
      refine z_icmp_lt (tgt := 29) mx mb (by omega) (by omega) dX4_requireCell_15 (by decide) (fun c15 => ?_) (fun c15 => ?_)
      · skip
        rw [hQ]
        exact z_retV mx mb mr mlk hK () (by trivial) rfl dX4_requireCell_29
      · skip
        exact absurd c15 (by omega)
  subst hQ
  subst hw0
  exact hstart

theorem in_X4_requireBlock_X0 : ∀ w ∈ wsX00, w ∈ wsX4_requireBlock := by decide +kernel
theorem in_X4_requireBlock_X1 : ∀ w ∈ wsX10, w ∈ wsX4_requireBlock := by decide +kernel
theorem in_X4_requireBlock_X4 : ∀ w ∈ wsX40, w ∈ wsX4_requireBlock := by decide +kernel
set_option maxRecDepth 100000 in
set_option maxHeartbeats 4000000 in
theorem c_X4_requireBlock (l : Launch) (D : va_G) (sz : Nat) (y : Nat → ClassId) (o : Nat → Nat) (a : Nat → Nat → Nat) (S : Nat → Nat → Int → Int) (tb : Nat → Nat) (x : Int → Int) (ln sc : Int) (f : Int → Int) (c : Int) (hR : Rel f (S 0)) (hI : Inv 100000 f) (kp : Kp f) (hc : 0 ≤ c ∧ c < f 1) : Met l yX4_requireBlock wsX4_requireBlock ({ frames := 0, cells := 0, slots := 0, locals := 0 } : Room) (zPw D vwCl (zT y) (wBq y o a S tb x ln sc (sav a) p6) sz [.ref (o 0), .int (iZ c)]) (va_Qv (fun _ : Unit => True) (zB D vwCl (zT y) (wBq y o a S tb x ln sc (sav a) p6) sz (fun _ : Unit => wBq y o a S tb x ln sc (sav a) p6)) (va_A (wBq y o a S tb x ln sc (sav a) p6) sz)) 0 0 (va_A (wBq y o a S tb x ln sc (sav a) p6) sz) := by
  refine z_headW (cc := cX4_requireBlock) (maxL := 2) (ret := none) [(0, .ref (o 0)), (1, .int (iZ c))] rfl (Nat.le_of_ble_eq_true rfl) (by decide +kernel) rfl ?_
  intro pp ee ss mm below meth cd mx mb mr mml mo mts mlk hK hname hsz hA
  generalize ([.ref (o 0), .int (iZ c)] : List Value).toArray = args at mts ⊢
  obtain ⟨wst, hw0⟩ : ∃ wst, wst = wBq y o a S tb x ln sc (sav a) p6 := ⟨_, rfl⟩
  have hA : ∀ q, ss.heap.size ≤ q → va_A wst sz q := by rw [hw0]; exact hA
  obtain ⟨Q, hQ⟩ : ∃ Q, Q = MQ below (va_Qv (fun _ : Unit => True) (zB D vwCl (zT y) wst sz (fun _ : Unit => wBq y o a S tb x ln sc (sav a) p6)) (va_A wst sz)) args ss 0 0 (va_A wst sz) := ⟨_, rfl⟩
  have hstart : Gz pp l ee ({ frames := 0, cells := 0, slots := 0, locals := 0 } : Room) ss mm args below meth cd 2 0 0 Q (Zw D vwCl (va_A wst sz) ss (wBq y o a S tb x ln sc (sav a) p6)) 0 [(0, .ref (o 0)), (1, .int (iZ c))] [] := by
    obtain ⟨hW, hN, hT⟩ := (Inv_Jy hI).f
    obtain ⟨w0, w1, w2, w3, w4, w5, w6⟩ := id hW
    obtain ⟨n3, n4, n5, n6, n7, n8, n9, n10⟩ := id hN
    obtain ⟨⟨r0, r1, r2, r3, r4⟩, rc, rb, ⟨s0, s1, s2, s3⟩, rt, rl⟩ := id hR
    obtain ⟨kA, hG, hS9⟩ := id kp
    refine z_iload_n mx mb dX4_requireBlock_0 rfl 1 rfl ?_
    refine z_if_lt (tgt := 18) mx mb (by omega) dX4_requireBlock_1 (by decide) (fun c1 => ?_) (fun c1 => ?_)
    · skip
      exact absurd c1 (by omega)
    · skip
      refine z_iload_n mx mb dX4_requireBlock_4 rfl 1 rfl ?_
      refine z_aload_n mx mb dX4_requireBlock_5 rfl 0 rfl ?_
      refine z_get (C := RX4) (T := TX4) (N := 5) mx mb mts (in_X4_requireBlock_X4) mo hK zgw 0 wB_0 rfl 0 (by decide) (mts _ (List.mem_of_getElem? (i := 3) rfl)) (fun _ h9 => h9) rfl dX4_requireBlock_6 ?_
      refine z_get (C := RX0) (T := TX0) (N := 9) mx mb mts (in_X4_requireBlock_X0) mo hK zgw (4 + 15 * 0 + 0) ((wB_get 0 0 (by omega) (by omega)).trans wR_0) rfl 0 (by decide) (mts _ (List.mem_of_getElem? (i := 4) rfl)) (fun _ h9 => h9) rfl dX4_requireBlock_9 ?_
      refine z_get (C := RX1) (T := TX1) (N := 6) mx mb mts (in_X4_requireBlock_X1) mo hK zgw (4 + 15 * 0 + 1) ((wB_get 0 1 (by omega) (by omega)).trans wR_1) rfl 5 (by decide) (mts _ (List.mem_of_getElem? (i := 5) rfl)) (fun _ h9 => h9) rfl dX4_requireBlock_12 ?_
      refine z_top (show (S 0) 1 1 = f 1 from by exact r1) ?_
      refine z_icmp_lt (tgt := 29) mx mb (by omega) (by omega) dX4_requireBlock_15 (by decide) (fun c15 => ?_) (fun c15 => ?_)
      · skip
        rw [hQ]
        exact z_retV mx mb mr mlk hK () (by trivial) rfl dX4_requireBlock_29
      · skip
        exact absurd c15 (by omega)
  subst hQ
  subst hw0
  exact hstart

theorem in_X4_requireTrain_X0 : ∀ w ∈ wsX00, w ∈ wsX4_requireTrain := by decide +kernel
theorem in_X4_requireTrain_X4 : ∀ w ∈ wsX40, w ∈ wsX4_requireTrain := by decide +kernel
set_option maxRecDepth 100000 in
set_option maxHeartbeats 4000000 in
theorem c_X4_requireTrain (l : Launch) (D : va_G) (sz : Nat) (y : Nat → ClassId) (o : Nat → Nat) (a : Nat → Nat → Nat) (S : Nat → Nat → Int → Int) (tb : Nat → Nat) (x : Int → Int) (ln sc : Int) (f : Int → Int) (t : Int) (hR : Rel f (S 0)) (hI : Inv 100000 f) (kp : Kp f) (ht : 0 ≤ t ∧ t < f 2) : Met l yX4_requireTrain wsX4_requireTrain ({ frames := 0, cells := 0, slots := 0, locals := 0 } : Room) (zPw D vwCl (zT y) (wBq y o a S tb x ln sc (sav a) p6) sz [.ref (o 0), .int (iZ t)]) (va_Qv (fun _ : Unit => True) (zB D vwCl (zT y) (wBq y o a S tb x ln sc (sav a) p6) sz (fun _ : Unit => wBq y o a S tb x ln sc (sav a) p6)) (va_A (wBq y o a S tb x ln sc (sav a) p6) sz)) 0 0 (va_A (wBq y o a S tb x ln sc (sav a) p6) sz) := by
  refine z_headW (cc := cX4_requireTrain) (maxL := 2) (ret := none) [(0, .ref (o 0)), (1, .int (iZ t))] rfl (Nat.le_of_ble_eq_true rfl) (by decide +kernel) rfl ?_
  intro pp ee ss mm below meth cd mx mb mr mml mo mts mlk hK hname hsz hA
  generalize ([.ref (o 0), .int (iZ t)] : List Value).toArray = args at mts ⊢
  obtain ⟨wst, hw0⟩ : ∃ wst, wst = wBq y o a S tb x ln sc (sav a) p6 := ⟨_, rfl⟩
  have hA : ∀ q, ss.heap.size ≤ q → va_A wst sz q := by rw [hw0]; exact hA
  obtain ⟨Q, hQ⟩ : ∃ Q, Q = MQ below (va_Qv (fun _ : Unit => True) (zB D vwCl (zT y) wst sz (fun _ : Unit => wBq y o a S tb x ln sc (sav a) p6)) (va_A wst sz)) args ss 0 0 (va_A wst sz) := ⟨_, rfl⟩
  have hstart : Gz pp l ee ({ frames := 0, cells := 0, slots := 0, locals := 0 } : Room) ss mm args below meth cd 2 0 0 Q (Zw D vwCl (va_A wst sz) ss (wBq y o a S tb x ln sc (sav a) p6)) 0 [(0, .ref (o 0)), (1, .int (iZ t))] [] := by
    obtain ⟨hW, hN, hT⟩ := (Inv_Jy hI).f
    obtain ⟨w0, w1, w2, w3, w4, w5, w6⟩ := id hW
    obtain ⟨n3, n4, n5, n6, n7, n8, n9, n10⟩ := id hN
    obtain ⟨⟨r0, r1, r2, r3, r4⟩, rc, rb, ⟨s0, s1, s2, s3⟩, rt, rl⟩ := id hR
    obtain ⟨kA, hG, hS9⟩ := id kp
    refine z_iload_n mx mb dX4_requireTrain_0 rfl 1 rfl ?_
    refine z_if_lt (tgt := 15) mx mb (by omega) dX4_requireTrain_1 (by decide) (fun c1 => ?_) (fun c1 => ?_)
    · skip
      exact absurd c1 (by omega)
    · skip
      refine z_iload_n mx mb dX4_requireTrain_4 rfl 1 rfl ?_
      refine z_aload_n mx mb dX4_requireTrain_5 rfl 0 rfl ?_
      refine z_get (C := RX4) (T := TX4) (N := 5) mx mb mts (in_X4_requireTrain_X4) mo hK zgw 0 wB_0 rfl 0 (by decide) (mts _ (List.mem_of_getElem? (i := 3) rfl)) (fun _ h9 => h9) rfl dX4_requireTrain_6 ?_
      refine z_get (C := RX0) (T := TX0) (N := 9) mx mb mts (in_X4_requireTrain_X0) mo hK zgw (4 + 15 * 0 + 0) ((wB_get 0 0 (by omega) (by omega)).trans wR_0) rfl 6 (by decide) (mts _ (List.mem_of_getElem? (i := 4) rfl)) (fun _ h9 => h9) rfl dX4_requireTrain_9 ?_
      refine z_top (show (S 0) 0 0 = f 2 from by exact r2) ?_
      refine z_icmp_lt (tgt := 26) mx mb (by omega) (by omega) dX4_requireTrain_12 (by decide) (fun c12 => ?_) (fun c12 => ?_)
      · skip
        rw [hQ]
        exact z_retV mx mb mr mlk hK () (by trivial) rfl dX4_requireTrain_26
      · skip
        exact absurd c12 (by omega)
  subst hQ
  subst hw0
  exact hstart

theorem in_X4_value_X0 : ∀ w ∈ wsX00, w ∈ wsX4_value := by decide +kernel
theorem in_X4_value_X1 : ∀ w ∈ wsX10, w ∈ wsX4_value := by decide +kernel
theorem in_X4_value_X4 : ∀ w ∈ wsX40, w ∈ wsX4_value := by decide +kernel
set_option maxRecDepth 100000 in
set_option maxHeartbeats 4000000 in
theorem c_X4_value (l : Launch) (D : va_G) (sz : Nat) (y : Nat → ClassId) (o : Nat → Nat) (a : Nat → Nat → Nat) (S : Nat → Nat → Int → Int) (tb : Nat → Nat) (x : Int → Int) (ln sc : Int) (f : Int → Int) (w : Int) (hR : Rel f (S 0)) (hI : Inv 100000 f) (kp : Kp f) (hw9 : 0 ≤ w ∧ w ≤ 11) : Met l yX4_value wsX4_value ({ frames := 2, cells := 0, slots := 0, locals := 41 } : Room) (zPw D vwCl (zT y) (wBq y o a S tb x ln sc (sav a) p6) sz [.ref (o 0), .int (iZ w)]) (va_Qi (fun (r : Int32) (_ : Unit) => r = iZ (valueOf f w)) (zB D vwCl (zT y) (wBq y o a S tb x ln sc (sav a) p6) sz (fun _ : Unit => wBq y o a S tb x ln sc (sav a) p6)) (va_A (wBq y o a S tb x ln sc (sav a) p6) sz)) 0 0 (va_A (wBq y o a S tb x ln sc (sav a) p6) sz) := by
  refine z_headW (cc := cX4_value) (maxL := 2) (ret := (some .int)) [(0, .ref (o 0)), (1, .int (iZ w))] rfl (Nat.le_of_ble_eq_true rfl) (by decide +kernel) rfl ?_
  intro pp ee ss mm below meth cd mx mb mr mml mo mts mlk hK hname hsz hA
  generalize ([.ref (o 0), .int (iZ w)] : List Value).toArray = args at mts ⊢
  obtain ⟨wst, hw0⟩ : ∃ wst, wst = wBq y o a S tb x ln sc (sav a) p6 := ⟨_, rfl⟩
  have hA : ∀ q, ss.heap.size ≤ q → va_A wst sz q := by rw [hw0]; exact hA
  obtain ⟨Q, hQ⟩ : ∃ Q, Q = MQ below (va_Qi (fun (r : Int32) (_ : Unit) => r = iZ (valueOf f w)) (zB D vwCl (zT y) wst sz (fun _ : Unit => wBq y o a S tb x ln sc (sav a) p6)) (va_A wst sz)) args ss 0 0 (va_A wst sz) := ⟨_, rfl⟩
  have hstart : Gz pp l ee ({ frames := 2, cells := 0, slots := 0, locals := 41 } : Room) ss mm args below meth cd 2 0 0 Q (Zw D vwCl (va_A wst sz) ss (wBq y o a S tb x ln sc (sav a) p6)) 0 [(0, .ref (o 0)), (1, .int (iZ w))] [] := by
    obtain ⟨hW, hN, hT⟩ := (Inv_Jy hI).f
    obtain ⟨w0, w1, w2, w3, w4, w5, w6⟩ := id hW
    obtain ⟨n3, n4, n5, n6, n7, n8, n9, n10⟩ := id hN
    obtain ⟨⟨r0, r1, r2, r3, r4⟩, rc, rb, ⟨s0, s1, s2, s3⟩, rt, rl⟩ := id hR
    obtain ⟨kA, hG, hS9⟩ := id kp
    refine z_iload_n mx mb dX4_value_0 rfl 1 rfl ?_
    rcases (show w = 0 ∨ w = 1 ∨ w = 2 ∨ w = 3 ∨ w = 4 ∨ w = 5 ∨ w = 6 ∨ w = 7 ∨ w = 8 ∨ w = 9 ∨ w = 10 ∨ w = 11 ∨ (w < 0 ∨ 11 < w) from by omega) with t1 | t1 | t1 | t1 | t1 | t1 | t1 | t1 | t1 | t1 | t1 | t1 | t1
    · skip
      refine z_tin 0 (tgt := 64) mx mb t1 (by decide) dX4_value_1 (by decide) (by decide) rfl (by decide) ?_
      refine z_aload_n mx mb dX4_value_64 rfl 0 rfl ?_
      refine z_get (C := RX4) (T := TX4) (N := 5) mx mb mts (in_X4_value_X4) mo hK zgw 0 wB_0 rfl 0 (by decide) (mts _ (List.mem_of_getElem? (i := 3) rfl)) (fun _ h9 => h9) rfl dX4_value_65 ?_
      refine z_get (C := RX0) (T := TX0) (N := 9) mx mb mts (in_X4_value_X0) mo hK zgw (4 + 15 * 0 + 0) ((wB_get 0 0 (by omega) (by omega)).trans wR_0) rfl 0 (by decide) (mts _ (List.mem_of_getElem? (i := 4) rfl)) (fun _ h9 => h9) rfl dX4_value_68 ?_
      refine z_get (C := RX1) (T := TX1) (N := 6) mx mb mts (in_X4_value_X1) mo hK zgw (4 + 15 * 0 + 1) ((wB_get 0 1 (by omega) (by omega)).trans wR_1) rfl 4 (by decide) (mts _ (List.mem_of_getElem? (i := 5) rfl)) (fun _ h9 => h9) rfl dX4_value_71 ?_
      rw [hQ]
      exact z_retI mx mb mr mlk hK () (by show iZ _ = iZ _; rw [t1]; exact congrArg iZ r0) rfl dX4_value_74
    · skip
      refine z_tin 1 (tgt := 75) mx mb t1 (by decide) dX4_value_1 (by decide) (by decide) rfl (by decide) ?_
      refine z_aload_n mx mb dX4_value_75 rfl 0 rfl ?_
      refine z_get (C := RX4) (T := TX4) (N := 5) mx mb mts (in_X4_value_X4) mo hK zgw 0 wB_0 rfl 0 (by decide) (mts _ (List.mem_of_getElem? (i := 3) rfl)) (fun _ h9 => h9) rfl dX4_value_76 ?_
      refine z_get (C := RX0) (T := TX0) (N := 9) mx mb mts (in_X4_value_X0) mo hK zgw (4 + 15 * 0 + 0) ((wB_get 0 0 (by omega) (by omega)).trans wR_0) rfl 0 (by decide) (mts _ (List.mem_of_getElem? (i := 4) rfl)) (fun _ h9 => h9) rfl dX4_value_79 ?_
      refine z_get (C := RX1) (T := TX1) (N := 6) mx mb mts (in_X4_value_X1) mo hK zgw (4 + 15 * 0 + 1) ((wB_get 0 1 (by omega) (by omega)).trans wR_1) rfl 5 (by decide) (mts _ (List.mem_of_getElem? (i := 6) rfl)) (fun _ h9 => h9) rfl dX4_value_82 ?_
      rw [hQ]
      exact z_retI mx mb mr mlk hK () (by show iZ _ = iZ _; rw [t1]; exact congrArg iZ r1) rfl dX4_value_85
    · skip
      refine z_tin 2 (tgt := 86) mx mb t1 (by decide) dX4_value_1 (by decide) (by decide) rfl (by decide) ?_
      refine z_aload_n mx mb dX4_value_86 rfl 0 rfl ?_
      refine z_get (C := RX4) (T := TX4) (N := 5) mx mb mts (in_X4_value_X4) mo hK zgw 0 wB_0 rfl 0 (by decide) (mts _ (List.mem_of_getElem? (i := 3) rfl)) (fun _ h9 => h9) rfl dX4_value_87 ?_
      refine z_get (C := RX0) (T := TX0) (N := 9) mx mb mts (in_X4_value_X0) mo hK zgw (4 + 15 * 0 + 0) ((wB_get 0 0 (by omega) (by omega)).trans wR_0) rfl 6 (by decide) (mts _ (List.mem_of_getElem? (i := 7) rfl)) (fun _ h9 => h9) rfl dX4_value_90 ?_
      rw [hQ]
      exact z_retI mx mb mr mlk hK () (by show iZ _ = iZ _; rw [t1]; exact congrArg iZ r2) rfl dX4_value_93
    · skip
      refine z_tin 3 (tgt := 94) mx mb t1 (by decide) dX4_value_1 (by decide) (by decide) rfl (by decide) ?_
      refine z_aload_n mx mb dX4_value_94 rfl 0 rfl ?_
      refine z_get (C := RX4) (T := TX4) (N := 5) mx mb mts (in_X4_value_X4) mo hK zgw 0 wB_0 rfl 0 (by decide) (mts _ (List.mem_of_getElem? (i := 3) rfl)) (fun _ h9 => h9) rfl dX4_value_95 ?_
      refine z_get (C := RX0) (T := TX0) (N := 9) mx mb mts (in_X4_value_X0) mo hK zgw (4 + 15 * 0 + 0) ((wB_get 0 0 (by omega) (by omega)).trans wR_0) rfl 7 (by decide) (mts _ (List.mem_of_getElem? (i := 8) rfl)) (fun _ h9 => h9) rfl dX4_value_98 ?_
      rw [hQ]
      exact z_retI mx mb mr mlk hK () (by show iZ _ = iZ _; rw [t1]; exact congrArg iZ r3) rfl dX4_value_101
    · skip
      refine z_tin 4 (tgt := 102) mx mb t1 (by decide) dX4_value_1 (by decide) (by decide) rfl (by decide) ?_
      refine z_aload_n mx mb dX4_value_102 rfl 0 rfl ?_
      refine z_get (C := RX4) (T := TX4) (N := 5) mx mb mts (in_X4_value_X4) mo hK zgw 0 wB_0 rfl 0 (by decide) (mts _ (List.mem_of_getElem? (i := 3) rfl)) (fun _ h9 => h9) rfl dX4_value_103 ?_
      refine z_get (C := RX0) (T := TX0) (N := 9) mx mb mts (in_X4_value_X0) mo hK zgw (4 + 15 * 0 + 0) ((wB_get 0 0 (by omega) (by omega)).trans wR_0) rfl 2 (by decide) (mts _ (List.mem_of_getElem? (i := 9) rfl)) (fun _ h9 => h9) rfl dX4_value_106 ?_
      refine z_iconst mx mb dX4_value_109 ?_
      refine z_iald mx mb hK zgw (4 + 15 * 0 + 7) 0 ((wB_get 0 7 (by omega) (by omega)).trans wR_7) rfl (by decide) (by omega) dX4_value_110 ?_
      rw [hQ]
      exact z_retI mx mb mr mlk hK () (by show iZ _ = iZ _; rw [t1]; exact congrArg iZ s0) rfl dX4_value_111
    · skip
      refine z_tin 5 (tgt := 112) mx mb t1 (by decide) dX4_value_1 (by decide) (by decide) rfl (by decide) ?_
      refine z_aload_n mx mb dX4_value_112 rfl 0 rfl ?_
      refine z_get (C := RX4) (T := TX4) (N := 5) mx mb mts (in_X4_value_X4) mo hK zgw 0 wB_0 rfl 0 (by decide) (mts _ (List.mem_of_getElem? (i := 3) rfl)) (fun _ h9 => h9) rfl dX4_value_113 ?_
      refine z_get (C := RX0) (T := TX0) (N := 9) mx mb mts (in_X4_value_X0) mo hK zgw (4 + 15 * 0 + 0) ((wB_get 0 0 (by omega) (by omega)).trans wR_0) rfl 2 (by decide) (mts _ (List.mem_of_getElem? (i := 9) rfl)) (fun _ h9 => h9) rfl dX4_value_116 ?_
      refine z_iconst mx mb dX4_value_119 ?_
      refine z_iald mx mb hK zgw (4 + 15 * 0 + 7) 0 ((wB_get 0 7 (by omega) (by omega)).trans wR_7) rfl (by decide) (by omega) dX4_value_120 ?_
      rw [hQ]
      exact z_retI mx mb mr mlk hK () (by show iZ _ = iZ _; rw [t1]; exact congrArg iZ s1) rfl dX4_value_121
    · skip
      refine z_tin 6 (tgt := 122) mx mb t1 (by decide) dX4_value_1 (by decide) (by decide) rfl (by decide) ?_
      refine z_aload_n mx mb dX4_value_122 rfl 0 rfl ?_
      refine z_get (C := RX4) (T := TX4) (N := 5) mx mb mts (in_X4_value_X4) mo hK zgw 0 wB_0 rfl 0 (by decide) (mts _ (List.mem_of_getElem? (i := 3) rfl)) (fun _ h9 => h9) rfl dX4_value_123 ?_
      refine z_get (C := RX0) (T := TX0) (N := 9) mx mb mts (in_X4_value_X0) mo hK zgw (4 + 15 * 0 + 0) ((wB_get 0 0 (by omega) (by omega)).trans wR_0) rfl 2 (by decide) (mts _ (List.mem_of_getElem? (i := 9) rfl)) (fun _ h9 => h9) rfl dX4_value_126 ?_
      refine z_iconst mx mb dX4_value_129 ?_
      refine z_iald mx mb hK zgw (4 + 15 * 0 + 7) 0 ((wB_get 0 7 (by omega) (by omega)).trans wR_7) rfl (by decide) (by omega) dX4_value_130 ?_
      rw [hQ]
      exact z_retI mx mb mr mlk hK () (by show iZ _ = iZ _; rw [t1]; exact congrArg iZ s2) rfl dX4_value_131
    · skip
      refine z_tin 7 (tgt := 132) mx mb t1 (by decide) dX4_value_1 (by decide) (by decide) rfl (by decide) ?_
      refine z_aload_n mx mb dX4_value_132 rfl 0 rfl ?_
      refine z_get (C := RX4) (T := TX4) (N := 5) mx mb mts (in_X4_value_X4) mo hK zgw 0 wB_0 rfl 0 (by decide) (mts _ (List.mem_of_getElem? (i := 3) rfl)) (fun _ h9 => h9) rfl dX4_value_133 ?_
      refine z_get (C := RX0) (T := TX0) (N := 9) mx mb mts (in_X4_value_X0) mo hK zgw (4 + 15 * 0 + 0) ((wB_get 0 0 (by omega) (by omega)).trans wR_0) rfl 2 (by decide) (mts _ (List.mem_of_getElem? (i := 9) rfl)) (fun _ h9 => h9) rfl dX4_value_136 ?_
      refine z_iconst mx mb dX4_value_139 ?_
      refine z_iald mx mb hK zgw (4 + 15 * 0 + 7) 0 ((wB_get 0 7 (by omega) (by omega)).trans wR_7) rfl (by decide) (by omega) dX4_value_140 ?_
      rw [hQ]
      exact z_retI mx mb mr mlk hK () (by show iZ _ = iZ _; rw [t1]; exact congrArg iZ s3) rfl dX4_value_141
    · skip
      refine z_tin 8 (tgt := 142) mx mb t1 (by decide) dX4_value_1 (by decide) (by decide) rfl (by decide) ?_
      refine z_aload_n mx mb dX4_value_142 rfl 0 rfl ?_
      refine z_get (C := RX4) (T := TX4) (N := 5) mx mb mts (in_X4_value_X4) mo hK zgw 0 wB_0 rfl 0 (by decide) (mts _ (List.mem_of_getElem? (i := 3) rfl)) (fun _ h9 => h9) rfl dX4_value_143 ?_
      refine z_get (C := RX0) (T := TX0) (N := 9) mx mb mts (in_X4_value_X0) mo hK zgw (4 + 15 * 0 + 0) ((wB_get 0 0 (by omega) (by omega)).trans wR_0) rfl 8 (by decide) (mts _ (List.mem_of_getElem? (i := 10) rfl)) (fun _ h9 => h9) rfl dX4_value_146 ?_
      rw [hQ]
      exact z_retI mx mb mr mlk hK () (by show iZ _ = iZ _; rw [t1]; exact congrArg iZ r4) rfl dX4_value_149
    · skip
      refine z_tin 9 (tgt := 150) mx mb t1 (by decide) dX4_value_1 (by decide) (by decide) rfl (by decide) ?_
      refine z_aload_n mx mb dX4_value_150 rfl 0 rfl ?_
      refine z_get (C := RX4) (T := TX4) (N := 5) mx mb mts (in_X4_value_X4) mo hK zgw 0 wB_0 rfl 0 (by decide) (mts _ (List.mem_of_getElem? (i := 3) rfl)) (fun _ h9 => h9) rfl dX4_value_151 ?_
      refine z_callP (As := []) (rest := []) ⟨mx, mb, mml, mo, mts⟩ hK zgw (c_X0_latestDispatch l D y (a 0) (S 0) f  (by assumption) (by assumption) (by assumption)) (cwV 0 mts gX4_value_X0_latestDispatch rfl rfl rfl (by decide +kernel) ⟨Nat.le_of_ble_eq_true rfl, Nat.le_of_ble_eq_true rfl⟩) (wB_in 0 (by omega)) (4 + 15 * 0 + 0) ((wB_get 0 0 (by omega) (by omega)).trans wR_0) rfl rfl rfl rfl (Nat.le_of_ble_eq_true rfl) ⟨Nat.zero_le _, Nat.zero_le _⟩ dX4_value_154 ?_
      rw [hQ]
      exact z_retI mx mb mr mlk hK () (by show iZ _ = iZ _; rw [t1]; rfl) rfl dX4_value_157
    · skip
      refine z_tin 10 (tgt := 158) mx mb t1 (by decide) dX4_value_1 (by decide) (by decide) rfl (by decide) ?_
      refine z_aload_n mx mb dX4_value_158 rfl 0 rfl ?_
      refine z_get (C := RX4) (T := TX4) (N := 5) mx mb mts (in_X4_value_X4) mo hK zgw 0 wB_0 rfl 0 (by decide) (mts _ (List.mem_of_getElem? (i := 3) rfl)) (fun _ h9 => h9) rfl dX4_value_159 ?_
      refine z_callP (As := []) (rest := []) ⟨mx, mb, mml, mo, mts⟩ hK zgw (c_X0_lyingTrains l D y (a 0) (S 0) f  (by assumption) (by assumption)) (cwV 0 mts gX4_value_X0_lyingTrains rfl rfl rfl (by decide +kernel) ⟨Nat.le_of_ble_eq_true rfl, Nat.le_of_ble_eq_true rfl⟩) (wB_in 0 (by omega)) (4 + 15 * 0 + 0) ((wB_get 0 0 (by omega) (by omega)).trans wR_0) rfl rfl rfl rfl (Nat.le_of_ble_eq_true rfl) ⟨Nat.zero_le _, Nat.zero_le _⟩ dX4_value_162 ?_
      rw [hQ]
      exact z_retI mx mb mr mlk hK () (by show iZ _ = iZ _; rw [t1]; rfl) rfl dX4_value_165
    · skip
      refine z_tin 11 (tgt := 166) mx mb t1 (by decide) dX4_value_1 (by decide) (by decide) rfl (by decide) ?_
      refine z_aload_n mx mb dX4_value_166 rfl 0 rfl ?_
      refine z_get (C := RX4) (T := TX4) (N := 5) mx mb mts (in_X4_value_X4) mo hK zgw 0 wB_0 rfl 0 (by decide) (mts _ (List.mem_of_getElem? (i := 3) rfl)) (fun _ h9 => h9) rfl dX4_value_167 ?_
      refine z_get (C := RX0) (T := TX0) (N := 9) mx mb mts (in_X4_value_X0) mo hK zgw (4 + 15 * 0 + 0) ((wB_get 0 0 (by omega) (by omega)).trans wR_0) rfl 0 (by decide) (mts _ (List.mem_of_getElem? (i := 4) rfl)) (fun _ h9 => h9) rfl dX4_value_170 ?_
      refine z_callP (As := []) (rest := []) ⟨mx, mb, mml, mo, mts⟩ hK zgw (c_X1_greatestHeight l D y (a 0) (S 0) f  (by assumption) (by assumption)) (cwV 0 mts gX4_value_X1_greatestHeight rfl rfl rfl (by decide +kernel) ⟨Nat.le_of_ble_eq_true rfl, Nat.le_of_ble_eq_true rfl⟩) (wB_in 0 (by omega)) (4 + 15 * 0 + 1) ((wB_get 0 1 (by omega) (by omega)).trans wR_1) rfl rfl rfl rfl (Nat.le_of_ble_eq_true rfl) ⟨Nat.zero_le _, Nat.zero_le _⟩ dX4_value_173 ?_
      rw [hQ]
      exact z_retI mx mb mr mlk hK () (by show iZ _ = iZ _; rw [t1]; rfl) rfl dX4_value_176
    · skip
      exact absurd t1 (by omega)
  subst hQ
  subst hw0
  exact hstart

theorem in_X4_cell_X0 : ∀ w ∈ wsX00, w ∈ wsX4_cell := by decide +kernel
theorem in_X4_cell_X1 : ∀ w ∈ wsX10, w ∈ wsX4_cell := by decide +kernel
theorem in_X4_cell_X4 : ∀ w ∈ wsX40, w ∈ wsX4_cell := by decide +kernel
set_option maxRecDepth 100000 in
set_option maxHeartbeats 4000000 in
theorem c_X4_cell (l : Launch) (D : va_G) (sz : Nat) (y : Nat → ClassId) (o : Nat → Nat) (a : Nat → Nat → Nat) (S : Nat → Nat → Int → Int) (tb : Nat → Nat) (x : Int → Int) (ln sc : Int) (f : Int → Int) (c w : Int) (hR : Rel f (S 0)) (hI : Inv 100000 f) (kp : Kp f) (hc : 0 ≤ c ∧ c < f 0) (hw9 : 0 ≤ w ∧ w ≤ 3) : Met l yX4_cell wsX4_cell ({ frames := 1, cells := 0, slots := 0, locals := 22 } : Room) (zPw D vwCl (zT y) (wBq y o a S tb x ln sc (sav a) p6) sz [.ref (o 0), .int (iZ c), .int (iZ w)]) (va_Qi (fun (r : Int32) (_ : Unit) => r = iZ (cellOf f c w)) (zB D vwCl (zT y) (wBq y o a S tb x ln sc (sav a) p6) sz (fun _ : Unit => wBq y o a S tb x ln sc (sav a) p6)) (va_A (wBq y o a S tb x ln sc (sav a) p6) sz)) 0 0 (va_A (wBq y o a S tb x ln sc (sav a) p6) sz) := by
  refine z_headW (cc := cX4_cell) (maxL := 3) (ret := (some .int)) [(0, .ref (o 0)), (1, .int (iZ c)), (2, .int (iZ w))] rfl (Nat.le_of_ble_eq_true rfl) (by decide +kernel) rfl ?_
  intro pp ee ss mm below meth cd mx mb mr mml mo mts mlk hK hname hsz hA
  generalize ([.ref (o 0), .int (iZ c), .int (iZ w)] : List Value).toArray = args at mts ⊢
  obtain ⟨wst, hw0⟩ : ∃ wst, wst = wBq y o a S tb x ln sc (sav a) p6 := ⟨_, rfl⟩
  have hA : ∀ q, ss.heap.size ≤ q → va_A wst sz q := by rw [hw0]; exact hA
  obtain ⟨Q, hQ⟩ : ∃ Q, Q = MQ below (va_Qi (fun (r : Int32) (_ : Unit) => r = iZ (cellOf f c w)) (zB D vwCl (zT y) wst sz (fun _ : Unit => wBq y o a S tb x ln sc (sav a) p6)) (va_A wst sz)) args ss 0 0 (va_A wst sz) := ⟨_, rfl⟩
  have hstart : Gz pp l ee ({ frames := 1, cells := 0, slots := 0, locals := 22 } : Room) ss mm args below meth cd 3 0 0 Q (Zw D vwCl (va_A wst sz) ss (wBq y o a S tb x ln sc (sav a) p6)) 0 [(0, .ref (o 0)), (1, .int (iZ c)), (2, .int (iZ w))] [] := by
    obtain ⟨hW, hN, hT⟩ := (Inv_Jy hI).f
    obtain ⟨w0, w1, w2, w3, w4, w5, w6⟩ := id hW
    obtain ⟨n3, n4, n5, n6, n7, n8, n9, n10⟩ := id hN
    obtain ⟨⟨r0, r1, r2, r3, r4⟩, rc, rb, ⟨s0, s1, s2, s3⟩, rt, rl⟩ := id hR
    obtain ⟨kA, hG, hS9⟩ := id kp
    refine z_aload_n mx mb dX4_cell_0 rfl 0 rfl ?_
    refine z_iload_n mx mb dX4_cell_1 rfl 1 rfl ?_
    refine z_callV0 (As := [.int (iZ c)]) (rest := []) ⟨mx, mb, mml, mo, mts⟩ hK hA (fun sz => c_X4_requireCell l D sz y o a S tb x ln sc f c hR hI kp (by omega)) (cwV 1 mts gX4_cell_X4_requireCell rfl rfl rfl (by decide +kernel) ⟨Nat.le_of_ble_eq_true rfl, Nat.le_of_ble_eq_true rfl⟩) 0 wB_0 rfl rfl rfl rfl (Nat.le_of_ble_eq_true rfl) ⟨Nat.zero_le _, Nat.zero_le _⟩ dX4_cell_2 (fun u2 hu2 => ?_)
    show Gz pp l ee ({ frames := 1, cells := 0, slots := 0, locals := 22 } : Room) ss mm args below meth cd 3 0 0 Q (Zw D vwCl (va_A wst sz) ss (wBq y o a S tb x ln sc (sav a) p6)) 5 [(0, .ref (o 0)), (1, .int (iZ c)), (2, .int (iZ w))] []
    refine z_iload_n mx mb dX4_cell_5 rfl 2 rfl ?_
    rcases (show w = 0 ∨ w = 1 ∨ w = 2 ∨ w = 3 ∨ (w < 0 ∨ 3 < w) from by omega) with t6 | t6 | t6 | t6 | t6
    · skip
      refine z_tin 0 (tgt := 36) mx mb t6 (by decide) dX4_cell_6 (by decide) (by decide) rfl (by decide) ?_
      refine z_aload_n mx mb dX4_cell_36 rfl 0 rfl ?_
      refine z_get (C := RX4) (T := TX4) (N := 5) mx mb mts (in_X4_cell_X4) mo hK zgw 0 wB_0 rfl 0 (by decide) (mts _ (List.mem_of_getElem? (i := 3) rfl)) (fun _ h9 => h9) rfl dX4_cell_37 ?_
      refine z_get (C := RX0) (T := TX0) (N := 9) mx mb mts (in_X4_cell_X0) mo hK zgw (4 + 15 * 0 + 0) ((wB_get 0 0 (by omega) (by omega)).trans wR_0) rfl 0 (by decide) (mts _ (List.mem_of_getElem? (i := 4) rfl)) (fun _ h9 => h9) rfl dX4_cell_40 ?_
      refine z_get (C := RX1) (T := TX1) (N := 6) mx mb mts (in_X4_cell_X1) mo hK zgw (4 + 15 * 0 + 1) ((wB_get 0 1 (by omega) (by omega)).trans wR_1) rfl 0 (by decide) (mts _ (List.mem_of_getElem? (i := 5) rfl)) (fun _ h9 => h9) rfl dX4_cell_43 ?_
      refine z_iload_n mx mb dX4_cell_46 rfl 1 rfl ?_
      refine z_iald mx mb hK zgw (4 + 15 * 0 + 2) 0 ((wB_get 0 2 (by omega) (by omega)).trans wR_2) rfl (by decide) (by omega) dX4_cell_47 ?_
      rw [hQ]
      exact z_retI mx mb mr mlk hK () (by show iZ _ = iZ _; rw [t6]; exact congrArg iZ (rc c hc.1 hc.2).1) rfl dX4_cell_48
    · skip
      refine z_tin 1 (tgt := 49) mx mb t6 (by decide) dX4_cell_6 (by decide) (by decide) rfl (by decide) ?_
      refine z_aload_n mx mb dX4_cell_49 rfl 0 rfl ?_
      refine z_get (C := RX4) (T := TX4) (N := 5) mx mb mts (in_X4_cell_X4) mo hK zgw 0 wB_0 rfl 0 (by decide) (mts _ (List.mem_of_getElem? (i := 3) rfl)) (fun _ h9 => h9) rfl dX4_cell_50 ?_
      refine z_get (C := RX0) (T := TX0) (N := 9) mx mb mts (in_X4_cell_X0) mo hK zgw (4 + 15 * 0 + 0) ((wB_get 0 0 (by omega) (by omega)).trans wR_0) rfl 0 (by decide) (mts _ (List.mem_of_getElem? (i := 4) rfl)) (fun _ h9 => h9) rfl dX4_cell_53 ?_
      refine z_get (C := RX1) (T := TX1) (N := 6) mx mb mts (in_X4_cell_X1) mo hK zgw (4 + 15 * 0 + 1) ((wB_get 0 1 (by omega) (by omega)).trans wR_1) rfl 1 (by decide) (mts _ (List.mem_of_getElem? (i := 6) rfl)) (fun _ h9 => h9) rfl dX4_cell_56 ?_
      refine z_iload_n mx mb dX4_cell_59 rfl 1 rfl ?_
      refine z_iald mx mb hK zgw (4 + 15 * 0 + 3) 0 ((wB_get 0 3 (by omega) (by omega)).trans wR_3) rfl (by decide) (by omega) dX4_cell_60 ?_
      rw [hQ]
      exact z_retI mx mb mr mlk hK () (by show iZ _ = iZ _; rw [t6]; exact congrArg iZ (rc c hc.1 hc.2).2.1) rfl dX4_cell_61
    · skip
      refine z_tin 2 (tgt := 62) mx mb t6 (by decide) dX4_cell_6 (by decide) (by decide) rfl (by decide) ?_
      refine z_aload_n mx mb dX4_cell_62 rfl 0 rfl ?_
      refine z_get (C := RX4) (T := TX4) (N := 5) mx mb mts (in_X4_cell_X4) mo hK zgw 0 wB_0 rfl 0 (by decide) (mts _ (List.mem_of_getElem? (i := 3) rfl)) (fun _ h9 => h9) rfl dX4_cell_63 ?_
      refine z_get (C := RX0) (T := TX0) (N := 9) mx mb mts (in_X4_cell_X0) mo hK zgw (4 + 15 * 0 + 0) ((wB_get 0 0 (by omega) (by omega)).trans wR_0) rfl 0 (by decide) (mts _ (List.mem_of_getElem? (i := 4) rfl)) (fun _ h9 => h9) rfl dX4_cell_66 ?_
      refine z_get (C := RX1) (T := TX1) (N := 6) mx mb mts (in_X4_cell_X1) mo hK zgw (4 + 15 * 0 + 1) ((wB_get 0 1 (by omega) (by omega)).trans wR_1) rfl 2 (by decide) (mts _ (List.mem_of_getElem? (i := 7) rfl)) (fun _ h9 => h9) rfl dX4_cell_69 ?_
      refine z_iload_n mx mb dX4_cell_72 rfl 1 rfl ?_
      refine z_iald mx mb hK zgw (4 + 15 * 0 + 4) 0 ((wB_get 0 4 (by omega) (by omega)).trans wR_4) rfl (by decide) (by omega) dX4_cell_73 ?_
      rw [hQ]
      exact z_retI mx mb mr mlk hK () (by show iZ _ = iZ _; rw [t6]; exact congrArg iZ (rc c hc.1 hc.2).2.2) rfl dX4_cell_74
    · skip
      refine z_tin 3 (tgt := 75) mx mb t6 (by decide) dX4_cell_6 (by decide) (by decide) rfl (by decide) ?_
      refine z_aload_n mx mb dX4_cell_75 rfl 0 rfl ?_
      refine z_get (C := RX4) (T := TX4) (N := 5) mx mb mts (in_X4_cell_X4) mo hK zgw 0 wB_0 rfl 0 (by decide) (mts _ (List.mem_of_getElem? (i := 3) rfl)) (fun _ h9 => h9) rfl dX4_cell_76 ?_
      refine z_iload_n mx mb dX4_cell_79 rfl 1 rfl ?_
      refine z_callP (As := [.int (iZ c)]) (rest := []) ⟨mx, mb, mml, mo, mts⟩ hK zgw (c_X0_trainOnCell l D y (a 0) (S 0) f c (by omega) (by assumption) (by assumption) (by assumption)) (cwV 1 mts gX4_cell_X0_trainOnCell rfl rfl rfl (by decide +kernel) ⟨Nat.le_of_ble_eq_true rfl, Nat.le_of_ble_eq_true rfl⟩) (wB_in 0 (by omega)) (4 + 15 * 0 + 0) ((wB_get 0 0 (by omega) (by omega)).trans wR_0) rfl rfl rfl rfl (Nat.le_of_ble_eq_true rfl) ⟨Nat.zero_le _, Nat.zero_le _⟩ dX4_cell_80 ?_
      rw [hQ]
      exact z_retI mx mb mr mlk hK () (by show iZ _ = iZ _; rw [t6]; rfl) rfl dX4_cell_83
    · skip
      exact absurd t6 (by omega)
  subst hQ
  subst hw0
  exact hstart

theorem in_X4_block_X0 : ∀ w ∈ wsX00, w ∈ wsX4_block := by decide +kernel
theorem in_X4_block_X1 : ∀ w ∈ wsX10, w ∈ wsX4_block := by decide +kernel
theorem in_X4_block_X4 : ∀ w ∈ wsX40, w ∈ wsX4_block := by decide +kernel
set_option maxRecDepth 100000 in
set_option maxHeartbeats 4000000 in
theorem c_X4_block (l : Launch) (D : va_G) (sz : Nat) (y : Nat → ClassId) (o : Nat → Nat) (a : Nat → Nat → Nat) (S : Nat → Nat → Int → Int) (tb : Nat → Nat) (x : Int → Int) (ln sc : Int) (f : Int → Int) (c w : Int) (hR : Rel f (S 0)) (hI : Inv 100000 f) (kp : Kp f) (hc : 0 ≤ c ∧ c < f 1) (hw9 : 0 ≤ w ∧ w ≤ 4) : Met l yX4_block wsX4_block ({ frames := 2, cells := 0, slots := 0, locals := 43 } : Room) (zPw D vwCl (zT y) (wBq y o a S tb x ln sc (sav a) p6) sz [.ref (o 0), .int (iZ c), .int (iZ w)]) (va_Qi (fun (r : Int32) (_ : Unit) => r = iZ (blockOf f c w)) (zB D vwCl (zT y) (wBq y o a S tb x ln sc (sav a) p6) sz (fun _ : Unit => wBq y o a S tb x ln sc (sav a) p6)) (va_A (wBq y o a S tb x ln sc (sav a) p6) sz)) 0 0 (va_A (wBq y o a S tb x ln sc (sav a) p6) sz) := by
  refine z_headW (cc := cX4_block) (maxL := 3) (ret := (some .int)) [(0, .ref (o 0)), (1, .int (iZ c)), (2, .int (iZ w))] rfl (Nat.le_of_ble_eq_true rfl) (by decide +kernel) rfl ?_
  intro pp ee ss mm below meth cd mx mb mr mml mo mts mlk hK hname hsz hA
  generalize ([.ref (o 0), .int (iZ c), .int (iZ w)] : List Value).toArray = args at mts ⊢
  obtain ⟨wst, hw0⟩ : ∃ wst, wst = wBq y o a S tb x ln sc (sav a) p6 := ⟨_, rfl⟩
  have hA : ∀ q, ss.heap.size ≤ q → va_A wst sz q := by rw [hw0]; exact hA
  obtain ⟨Q, hQ⟩ : ∃ Q, Q = MQ below (va_Qi (fun (r : Int32) (_ : Unit) => r = iZ (blockOf f c w)) (zB D vwCl (zT y) wst sz (fun _ : Unit => wBq y o a S tb x ln sc (sav a) p6)) (va_A wst sz)) args ss 0 0 (va_A wst sz) := ⟨_, rfl⟩
  have hstart : Gz pp l ee ({ frames := 2, cells := 0, slots := 0, locals := 43 } : Room) ss mm args below meth cd 3 0 0 Q (Zw D vwCl (va_A wst sz) ss (wBq y o a S tb x ln sc (sav a) p6)) 0 [(0, .ref (o 0)), (1, .int (iZ c)), (2, .int (iZ w))] [] := by
    obtain ⟨hW, hN, hT⟩ := (Inv_Jy hI).f
    obtain ⟨w0, w1, w2, w3, w4, w5, w6⟩ := id hW
    obtain ⟨n3, n4, n5, n6, n7, n8, n9, n10⟩ := id hN
    obtain ⟨⟨r0, r1, r2, r3, r4⟩, rc, rb, ⟨s0, s1, s2, s3⟩, rt, rl⟩ := id hR
    obtain ⟨kA, hG, hS9⟩ := id kp
    refine z_aload_n mx mb dX4_block_0 rfl 0 rfl ?_
    refine z_iload_n mx mb dX4_block_1 rfl 1 rfl ?_
    refine z_callV0 (As := [.int (iZ c)]) (rest := []) ⟨mx, mb, mml, mo, mts⟩ hK hA (fun sz => c_X4_requireBlock l D sz y o a S tb x ln sc f c hR hI kp (by omega)) (cwV 1 mts gX4_block_X4_requireBlock rfl rfl rfl (by decide +kernel) ⟨Nat.le_of_ble_eq_true rfl, Nat.le_of_ble_eq_true rfl⟩) 0 wB_0 rfl rfl rfl rfl (Nat.le_of_ble_eq_true rfl) ⟨Nat.zero_le _, Nat.zero_le _⟩ dX4_block_2 (fun u2 hu2 => ?_)
    show Gz pp l ee ({ frames := 2, cells := 0, slots := 0, locals := 43 } : Room) ss mm args below meth cd 3 0 0 Q (Zw D vwCl (va_A wst sz) ss (wBq y o a S tb x ln sc (sav a) p6)) 5 [(0, .ref (o 0)), (1, .int (iZ c)), (2, .int (iZ w))] []
    refine z_iload_n mx mb dX4_block_5 rfl 2 rfl ?_
    rcases (show w = 0 ∨ w = 1 ∨ w = 2 ∨ w = 3 ∨ w = 4 ∨ (w < 0 ∨ 4 < w) from by omega) with t6 | t6 | t6 | t6 | t6 | t6
    · skip
      refine z_tin 0 (tgt := 40) mx mb t6 (by decide) dX4_block_6 (by decide) (by decide) rfl (by decide) ?_
      refine z_aload_n mx mb dX4_block_40 rfl 0 rfl ?_
      refine z_get (C := RX4) (T := TX4) (N := 5) mx mb mts (in_X4_block_X4) mo hK zgw 0 wB_0 rfl 0 (by decide) (mts _ (List.mem_of_getElem? (i := 3) rfl)) (fun _ h9 => h9) rfl dX4_block_41 ?_
      refine z_get (C := RX0) (T := TX0) (N := 9) mx mb mts (in_X4_block_X0) mo hK zgw (4 + 15 * 0 + 0) ((wB_get 0 0 (by omega) (by omega)).trans wR_0) rfl 0 (by decide) (mts _ (List.mem_of_getElem? (i := 4) rfl)) (fun _ h9 => h9) rfl dX4_block_44 ?_
      refine z_iload_n mx mb dX4_block_47 rfl 1 rfl ?_
      refine z_callP (As := [.int (iZ c)]) (rest := []) ⟨mx, mb, mml, mo, mts⟩ hK zgw (c_X1_firstCell l D y (a 0) (S 0) f c (by omega) (by assumption) (by assumption)) (cwV 1 mts gX4_block_X1_firstCell rfl rfl rfl (by decide +kernel) ⟨Nat.le_of_ble_eq_true rfl, Nat.le_of_ble_eq_true rfl⟩) (wB_in 0 (by omega)) (4 + 15 * 0 + 1) ((wB_get 0 1 (by omega) (by omega)).trans wR_1) rfl rfl rfl rfl (Nat.le_of_ble_eq_true rfl) ⟨Nat.zero_le _, Nat.zero_le _⟩ dX4_block_48 ?_
      rw [hQ]
      exact z_retI mx mb mr mlk hK () (by show iZ _ = iZ _; rw [t6]; rfl) rfl dX4_block_51
    · skip
      refine z_tin 1 (tgt := 52) mx mb t6 (by decide) dX4_block_6 (by decide) (by decide) rfl (by decide) ?_
      refine z_aload_n mx mb dX4_block_52 rfl 0 rfl ?_
      refine z_get (C := RX4) (T := TX4) (N := 5) mx mb mts (in_X4_block_X4) mo hK zgw 0 wB_0 rfl 0 (by decide) (mts _ (List.mem_of_getElem? (i := 3) rfl)) (fun _ h9 => h9) rfl dX4_block_53 ?_
      refine z_get (C := RX0) (T := TX0) (N := 9) mx mb mts (in_X4_block_X0) mo hK zgw (4 + 15 * 0 + 0) ((wB_get 0 0 (by omega) (by omega)).trans wR_0) rfl 0 (by decide) (mts _ (List.mem_of_getElem? (i := 4) rfl)) (fun _ h9 => h9) rfl dX4_block_56 ?_
      refine z_get (C := RX1) (T := TX1) (N := 6) mx mb mts (in_X4_block_X1) mo hK zgw (4 + 15 * 0 + 1) ((wB_get 0 1 (by omega) (by omega)).trans wR_1) rfl 3 (by decide) (mts _ (List.mem_of_getElem? (i := 5) rfl)) (fun _ h9 => h9) rfl dX4_block_59 ?_
      refine z_iload_n mx mb dX4_block_62 rfl 1 rfl ?_
      refine z_iald mx mb hK zgw (4 + 15 * 0 + 5) 0 ((wB_get 0 5 (by omega) (by omega)).trans wR_5) rfl (by decide) (by omega) dX4_block_63 ?_
      rw [hQ]
      exact z_retI mx mb mr mlk hK () (by show iZ _ = iZ _; rw [t6]; exact congrArg iZ (rb c hc.1 hc.2).1) rfl dX4_block_64
    · skip
      refine z_tin 2 (tgt := 65) mx mb t6 (by decide) dX4_block_6 (by decide) (by decide) rfl (by decide) ?_
      refine z_aload_n mx mb dX4_block_65 rfl 0 rfl ?_
      refine z_get (C := RX4) (T := TX4) (N := 5) mx mb mts (in_X4_block_X4) mo hK zgw 0 wB_0 rfl 0 (by decide) (mts _ (List.mem_of_getElem? (i := 3) rfl)) (fun _ h9 => h9) rfl dX4_block_66 ?_
      refine z_get (C := RX0) (T := TX0) (N := 9) mx mb mts (in_X4_block_X0) mo hK zgw (4 + 15 * 0 + 0) ((wB_get 0 0 (by omega) (by omega)).trans wR_0) rfl 0 (by decide) (mts _ (List.mem_of_getElem? (i := 4) rfl)) (fun _ h9 => h9) rfl dX4_block_69 ?_
      refine z_iload_n mx mb dX4_block_72 rfl 1 rfl ?_
      refine z_callP (As := [.int (iZ c)]) (rest := []) ⟨mx, mb, mml, mo, mts⟩ hK zgw (c_X1_blockLength l D y (a 0) (S 0) f c (by omega) (by assumption) (by assumption)) (cwV 1 mts gX4_block_X1_blockLength rfl rfl rfl (by decide +kernel) ⟨Nat.le_of_ble_eq_true rfl, Nat.le_of_ble_eq_true rfl⟩) (wB_in 0 (by omega)) (4 + 15 * 0 + 1) ((wB_get 0 1 (by omega) (by omega)).trans wR_1) rfl rfl rfl rfl (Nat.le_of_ble_eq_true rfl) ⟨Nat.zero_le _, Nat.zero_le _⟩ dX4_block_73 ?_
      rw [hQ]
      exact z_retI mx mb mr mlk hK () (by show iZ _ = iZ _; rw [t6]; rfl) rfl dX4_block_76
    · skip
      refine z_tin 3 (tgt := 77) mx mb t6 (by decide) dX4_block_6 (by decide) (by decide) rfl (by decide) ?_
      refine z_aload_n mx mb dX4_block_77 rfl 0 rfl ?_
      refine z_get (C := RX4) (T := TX4) (N := 5) mx mb mts (in_X4_block_X4) mo hK zgw 0 wB_0 rfl 0 (by decide) (mts _ (List.mem_of_getElem? (i := 3) rfl)) (fun _ h9 => h9) rfl dX4_block_78 ?_
      refine z_iload_n mx mb dX4_block_81 rfl 1 rfl ?_
      refine z_callP (As := [.int (iZ c)]) (rest := []) ⟨mx, mb, mml, mo, mts⟩ hK zgw (c_X0_trainInBlock l D y (a 0) (S 0) f c (by omega) (by assumption) (by assumption)) (cwV 1 mts gX4_block_X0_trainInBlock rfl rfl rfl (by decide +kernel) ⟨Nat.le_of_ble_eq_true rfl, Nat.le_of_ble_eq_true rfl⟩) (wB_in 0 (by omega)) (4 + 15 * 0 + 0) ((wB_get 0 0 (by omega) (by omega)).trans wR_0) rfl rfl rfl rfl (Nat.le_of_ble_eq_true rfl) ⟨Nat.zero_le _, Nat.zero_le _⟩ dX4_block_82 ?_
      rw [hQ]
      exact z_retI mx mb mr mlk hK () (by show iZ _ = iZ _; rw [t6]; rfl) rfl dX4_block_85
    · skip
      refine z_tin 4 (tgt := 86) mx mb t6 (by decide) dX4_block_6 (by decide) (by decide) rfl (by decide) ?_
      refine z_aload_n mx mb dX4_block_86 rfl 0 rfl ?_
      refine z_get (C := RX4) (T := TX4) (N := 5) mx mb mts (in_X4_block_X4) mo hK zgw 0 wB_0 rfl 0 (by decide) (mts _ (List.mem_of_getElem? (i := 3) rfl)) (fun _ h9 => h9) rfl dX4_block_87 ?_
      refine z_get (C := RX0) (T := TX0) (N := 9) mx mb mts (in_X4_block_X0) mo hK zgw (4 + 15 * 0 + 0) ((wB_get 0 0 (by omega) (by omega)).trans wR_0) rfl 3 (by decide) (mts _ (List.mem_of_getElem? (i := 6) rfl)) (fun _ h9 => h9) rfl dX4_block_90 ?_
      refine z_iload_n mx mb dX4_block_93 rfl 1 rfl ?_
      refine z_iald mx mb hK zgw (4 + 15 * 0 + 12) 0 ((wB_get 0 12 (by omega) (by omega)).trans wR_12) rfl (by decide) (by omega) dX4_block_94 ?_
      rw [hQ]
      exact z_retI mx mb mr mlk hK () (by show iZ _ = iZ _; rw [t6]; exact congrArg iZ (rb c hc.1 hc.2).2) rfl dX4_block_95
    · skip
      exact absurd t6 (by omega)
  subst hQ
  subst hw0
  exact hstart

theorem in_X4_train_X0 : ∀ w ∈ wsX00, w ∈ wsX4_train := by decide +kernel
theorem in_X4_train_X3 : ∀ w ∈ wsX30, w ∈ wsX4_train := by decide +kernel
theorem in_X4_train_X4 : ∀ w ∈ wsX40, w ∈ wsX4_train := by decide +kernel
set_option maxRecDepth 100000 in
set_option maxHeartbeats 4000000 in
theorem c_X4_train (l : Launch) (D : va_G) (sz : Nat) (y : Nat → ClassId) (o : Nat → Nat) (a : Nat → Nat → Nat) (S : Nat → Nat → Int → Int) (tb : Nat → Nat) (x : Int → Int) (ln sc : Int) (f : Int → Int) (t w : Int) (hR : Rel f (S 0)) (hI : Inv 100000 f) (kp : Kp f) (ht : 0 ≤ t ∧ t < f 2) (hw9 : 0 ≤ w ∧ w ≤ 9) : Met l yX4_train wsX4_train ({ frames := 1, cells := 0, slots := 0, locals := 22 } : Room) (zPw D vwCl (zT y) (wBq y o a S tb x ln sc (sav a) p6) sz [.ref (o 0), .int (iZ t), .int (iZ w)]) (va_Qi (fun (r : Int32) (_ : Unit) => r = iZ (trainOf f t w)) (zB D vwCl (zT y) (wBq y o a S tb x ln sc (sav a) p6) sz (fun _ : Unit => wBq y o a S tb x ln sc (sav a) p6)) (va_A (wBq y o a S tb x ln sc (sav a) p6) sz)) 0 0 (va_A (wBq y o a S tb x ln sc (sav a) p6) sz) := by
  refine z_headW (cc := cX4_train) (maxL := 4) (ret := (some .int)) [(0, .ref (o 0)), (1, .int (iZ t)), (2, .int (iZ w))] rfl (Nat.le_of_ble_eq_true rfl) (by decide +kernel) rfl ?_
  intro pp ee ss mm below meth cd mx mb mr mml mo mts mlk hK hname hsz hA
  generalize ([.ref (o 0), .int (iZ t), .int (iZ w)] : List Value).toArray = args at mts ⊢
  obtain ⟨wst, hw0⟩ : ∃ wst, wst = wBq y o a S tb x ln sc (sav a) p6 := ⟨_, rfl⟩
  have hA : ∀ q, ss.heap.size ≤ q → va_A wst sz q := by rw [hw0]; exact hA
  obtain ⟨Q, hQ⟩ : ∃ Q, Q = MQ below (va_Qi (fun (r : Int32) (_ : Unit) => r = iZ (trainOf f t w)) (zB D vwCl (zT y) wst sz (fun _ : Unit => wBq y o a S tb x ln sc (sav a) p6)) (va_A wst sz)) args ss 0 0 (va_A wst sz) := ⟨_, rfl⟩
  have hstart : Gz pp l ee ({ frames := 1, cells := 0, slots := 0, locals := 22 } : Room) ss mm args below meth cd 4 0 0 Q (Zw D vwCl (va_A wst sz) ss (wBq y o a S tb x ln sc (sav a) p6)) 0 [(0, .ref (o 0)), (1, .int (iZ t)), (2, .int (iZ w))] [] := by
    obtain ⟨hW, hN, hT⟩ := (Inv_Jy hI).f
    obtain ⟨w0, w1, w2, w3, w4, w5, w6⟩ := id hW
    obtain ⟨n3, n4, n5, n6, n7, n8, n9, n10⟩ := id hN
    obtain ⟨⟨r0, r1, r2, r3, r4⟩, rc, rb, ⟨s0, s1, s2, s3⟩, rt, rl⟩ := id hR
    obtain ⟨kA, hG, hS9⟩ := id kp
    obtain ⟨n, hn⟩ : ∃ n : Nat, t = (n : Int) := ⟨t.toNat, by omega⟩
    have hn4 : (n : Int) < f 2 ∧ n < 4 := by omega
    have tn := hT (n : Int) (by omega) (by omega)
    obtain ⟨T1, T2, T3, T5, T7⟩ := tn
    refine z_aload_n mx mb dX4_train_0 rfl 0 rfl ?_
    refine z_iload_n mx mb dX4_train_1 rfl 1 rfl ?_
    refine z_callV0 (As := [.int (iZ t)]) (rest := []) ⟨mx, mb, mml, mo, mts⟩ hK hA (fun sz => c_X4_requireTrain l D sz y o a S tb x ln sc f t hR hI kp (by omega)) (cwV 1 mts gX4_train_X4_requireTrain rfl rfl rfl (by decide +kernel) ⟨Nat.le_of_ble_eq_true rfl, Nat.le_of_ble_eq_true rfl⟩) 0 wB_0 rfl rfl rfl rfl (Nat.le_of_ble_eq_true rfl) ⟨Nat.zero_le _, Nat.zero_le _⟩ dX4_train_2 (fun u2 hu2 => ?_)
    show Gz pp l ee ({ frames := 1, cells := 0, slots := 0, locals := 22 } : Room) ss mm args below meth cd 4 0 0 Q (Zw D vwCl (va_A wst sz) ss (wBq y o a S tb x ln sc (sav a) p6)) 5 [(0, .ref (o 0)), (1, .int (iZ t)), (2, .int (iZ w))] []
    refine z_aload_n mx mb dX4_train_5 rfl 0 rfl ?_
    refine z_get (C := RX4) (T := TX4) (N := 5) mx mb mts (in_X4_train_X4) mo hK zgw 0 wB_0 rfl 0 (by decide) (mts _ (List.mem_of_getElem? (i := 3) rfl)) (fun _ h9 => h9) rfl dX4_train_6 ?_
    refine z_get (C := RX0) (T := TX0) (N := 9) mx mb mts (in_X4_train_X0) mo hK zgw (4 + 15 * 0 + 0) ((wB_get 0 0 (by omega) (by omega)).trans wR_0) rfl 1 (by decide) (mts _ (List.mem_of_getElem? (i := 4) rfl)) (fun _ h9 => h9) rfl dX4_train_9 ?_
    refine z_iload_n mx mb dX4_train_12 rfl 1 rfl ?_
    refine z_top (show t = (n : Int) from by exact hn) ?_
    refine z_aald (i := n) mx mb hK zgw (4 + 15 * 0 + 6) 1 ((wB_get 0 6 (by omega) (by omega)).trans wR_6) rfl (by decide) (by omega) dX4_train_13 ?_
    refine z_astore_n mx mb dX4_train_14 rfl (by decide) [(3, .ref (a 0 (8 + n))), (0, .ref (o 0)), (1, .int (iZ t)), (2, .int (iZ w))] rfl ?_
    refine z_iload_n mx mb dX4_train_15 rfl 3 rfl ?_
    rcases (show w = 0 ∨ w = 1 ∨ w = 2 ∨ w = 3 ∨ w = 4 ∨ w = 5 ∨ w = 6 ∨ w = 7 ∨ w = 8 ∨ w = 9 ∨ (w < 0 ∨ 9 < w) from by omega) with t16 | t16 | t16 | t16 | t16 | t16 | t16 | t16 | t16 | t16 | t16
    · skip
      refine z_tin 0 (tgt := 72) mx mb t16 (by decide) dX4_train_16 (by decide) (by decide) rfl (by decide) ?_
      refine z_aload_n mx mb dX4_train_72 rfl 0 rfl ?_
      refine z_get (C := RX3) (T := TX3) (N := 8) mx mb mts (in_X4_train_X3) mo hK zgw (4 + 15 * 0 + (8 + n)) ((wB_get 0 (8 + n) (by omega) (by omega)).trans (wR_t (by omega))) rfl 0 (by decide) (mts _ (List.mem_of_getElem? (i := 5) rfl)) (fun _ h9 => h9) rfl dX4_train_73 ?_
      rw [hQ]
      exact z_retI mx mb mr mlk hK () (by show iZ _ = iZ _; rw [t16, hn]; exact congrArg iZ (rt n hn4.1 0 (by omega) (by omega))) rfl dX4_train_76
    · skip
      refine z_tin 1 (tgt := 77) mx mb t16 (by decide) dX4_train_16 (by decide) (by decide) rfl (by decide) ?_
      refine z_aload_n mx mb dX4_train_77 rfl 1 rfl ?_
      refine z_get (C := RX4) (T := TX4) (N := 5) mx mb mts (in_X4_train_X4) mo hK zgw 0 wB_0 rfl 0 (by decide) (mts _ (List.mem_of_getElem? (i := 3) rfl)) (fun _ h9 => h9) rfl dX4_train_78 ?_
      refine z_aload_n mx mb dX4_train_81 rfl 0 rfl ?_
      refine z_callP (As := [.ref (a 0 (8 + n))]) (rest := []) ⟨mx, mb, mml, mo, mts⟩ hK zgw (c_X0_blockOf l D y (a 0) (S 0) f n (by omega) (by assumption) (by assumption)) (cwV 1 mts gX4_train_X0_blockOf rfl rfl rfl (by decide +kernel) ⟨Nat.le_of_ble_eq_true rfl, Nat.le_of_ble_eq_true rfl⟩) (wB_in 0 (by omega)) (4 + 15 * 0 + 0) ((wB_get 0 0 (by omega) (by omega)).trans wR_0) rfl rfl rfl rfl (Nat.le_of_ble_eq_true rfl) ⟨Nat.zero_le _, Nat.zero_le _⟩ dX4_train_82 ?_
      rw [hQ]
      exact z_retI mx mb mr mlk hK () (by show iZ _ = iZ _; rw [t16, hn]; rfl) rfl dX4_train_85
    · skip
      refine z_tin 2 (tgt := 86) mx mb t16 (by decide) dX4_train_16 (by decide) (by decide) rfl (by decide) ?_
      refine z_aload_n mx mb dX4_train_86 rfl 0 rfl ?_
      refine z_get (C := RX3) (T := TX3) (N := 8) mx mb mts (in_X4_train_X3) mo hK zgw (4 + 15 * 0 + (8 + n)) ((wB_get 0 (8 + n) (by omega) (by omega)).trans (wR_t (by omega))) rfl 1 (by decide) (mts _ (List.mem_of_getElem? (i := 6) rfl)) (fun _ h9 => h9) rfl dX4_train_87 ?_
      rw [hQ]
      exact z_retI mx mb mr mlk hK () (by show iZ _ = iZ _; rw [t16, hn]; exact congrArg iZ (rt n hn4.1 1 (by omega) (by omega))) rfl dX4_train_90
    · skip
      refine z_tin 3 (tgt := 91) mx mb t16 (by decide) dX4_train_16 (by decide) (by decide) rfl (by decide) ?_
      refine z_aload_n mx mb dX4_train_91 rfl 0 rfl ?_
      refine z_get (C := RX3) (T := TX3) (N := 8) mx mb mts (in_X4_train_X3) mo hK zgw (4 + 15 * 0 + (8 + n)) ((wB_get 0 (8 + n) (by omega) (by omega)).trans (wR_t (by omega))) rfl 2 (by decide) (mts _ (List.mem_of_getElem? (i := 7) rfl)) (fun _ h9 => h9) rfl dX4_train_92 ?_
      rw [hQ]
      exact z_retI mx mb mr mlk hK () (by show iZ _ = iZ _; rw [t16, hn]; exact congrArg iZ (rt n hn4.1 2 (by omega) (by omega))) rfl dX4_train_95
    · skip
      refine z_tin 4 (tgt := 96) mx mb t16 (by decide) dX4_train_16 (by decide) (by decide) rfl (by decide) ?_
      refine z_aload_n mx mb dX4_train_96 rfl 0 rfl ?_
      refine z_get (C := RX3) (T := TX3) (N := 8) mx mb mts (in_X4_train_X3) mo hK zgw (4 + 15 * 0 + (8 + n)) ((wB_get 0 (8 + n) (by omega) (by omega)).trans (wR_t (by omega))) rfl 3 (by decide) (mts _ (List.mem_of_getElem? (i := 8) rfl)) (fun _ h9 => h9) rfl dX4_train_97 ?_
      rw [hQ]
      exact z_retI mx mb mr mlk hK () (by show iZ _ = iZ _; rw [t16, hn]; exact congrArg iZ (rt n hn4.1 3 (by omega) (by omega))) rfl dX4_train_100
    · skip
      refine z_tin 5 (tgt := 101) mx mb t16 (by decide) dX4_train_16 (by decide) (by decide) rfl (by decide) ?_
      refine z_aload_n mx mb dX4_train_101 rfl 0 rfl ?_
      refine z_get (C := RX3) (T := TX3) (N := 8) mx mb mts (in_X4_train_X3) mo hK zgw (4 + 15 * 0 + (8 + n)) ((wB_get 0 (8 + n) (by omega) (by omega)).trans (wR_t (by omega))) rfl 4 (by decide) (mts _ (List.mem_of_getElem? (i := 9) rfl)) (fun _ h9 => h9) rfl dX4_train_102 ?_
      rw [hQ]
      exact z_retI mx mb mr mlk hK () (by show iZ _ = iZ _; rw [t16, hn]; exact congrArg iZ (rt n hn4.1 4 (by omega) (by omega))) rfl dX4_train_105
    · skip
      refine z_tin 6 (tgt := 106) mx mb t16 (by decide) dX4_train_16 (by decide) (by decide) rfl (by decide) ?_
      refine z_aload_n mx mb dX4_train_106 rfl 0 rfl ?_
      refine z_get (C := RX3) (T := TX3) (N := 8) mx mb mts (in_X4_train_X3) mo hK zgw (4 + 15 * 0 + (8 + n)) ((wB_get 0 (8 + n) (by omega) (by omega)).trans (wR_t (by omega))) rfl 5 (by decide) (mts _ (List.mem_of_getElem? (i := 10) rfl)) (fun _ h9 => h9) rfl dX4_train_107 ?_
      rw [hQ]
      exact z_retI mx mb mr mlk hK () (by show iZ _ = iZ _; rw [t16, hn]; rw [rt n hn4.1 5 (by omega) (by omega)]; exact congrArg iZ (std_eq (hS9 (n : Int) (by omega) hn4.1))) rfl dX4_train_110
    · skip
      refine z_tin 7 (tgt := 111) mx mb t16 (by decide) dX4_train_16 (by decide) (by decide) rfl (by decide) ?_
      refine z_aload_n mx mb dX4_train_111 rfl 1 rfl ?_
      refine z_get (C := RX4) (T := TX4) (N := 5) mx mb mts (in_X4_train_X4) mo hK zgw 0 wB_0 rfl 0 (by decide) (mts _ (List.mem_of_getElem? (i := 3) rfl)) (fun _ h9 => h9) rfl dX4_train_112 ?_
      refine z_aload_n mx mb dX4_train_115 rfl 0 rfl ?_
      refine z_callP (As := [.ref (a 0 (8 + n))]) (rest := []) ⟨mx, mb, mml, mo, mts⟩ hK zgw (c_X0_dragOf l D y (a 0) (S 0) f n (by omega) (by omega) (by assumption) (by assumption)) (cwV 1 mts gX4_train_X0_dragOf rfl rfl rfl (by decide +kernel) ⟨Nat.le_of_ble_eq_true rfl, Nat.le_of_ble_eq_true rfl⟩) (wB_in 0 (by omega)) (4 + 15 * 0 + 0) ((wB_get 0 0 (by omega) (by omega)).trans wR_0) rfl rfl rfl rfl (Nat.le_of_ble_eq_true rfl) ⟨Nat.zero_le _, Nat.zero_le _⟩ dX4_train_116 ?_
      rw [hQ]
      exact z_retI mx mb mr mlk hK () (by show iZ _ = iZ _; rw [t16, hn]; rfl) rfl dX4_train_119
    · skip
      refine z_tin 8 (tgt := 120) mx mb t16 (by decide) dX4_train_16 (by decide) (by decide) rfl (by decide) ?_
      refine z_aload_n mx mb dX4_train_120 rfl 0 rfl ?_
      refine z_get (C := RX3) (T := TX3) (N := 8) mx mb mts (in_X4_train_X3) mo hK zgw (4 + 15 * 0 + (8 + n)) ((wB_get 0 (8 + n) (by omega) (by omega)).trans (wR_t (by omega))) rfl 6 (by decide) (mts _ (List.mem_of_getElem? (i := 11) rfl)) (fun _ h9 => h9) rfl dX4_train_121 ?_
      rw [hQ]
      exact z_retI mx mb mr mlk hK () (by show iZ _ = iZ _; rw [t16, hn]; exact congrArg iZ (rt n hn4.1 6 (by omega) (by omega))) rfl dX4_train_124
    · skip
      refine z_tin 9 (tgt := 125) mx mb t16 (by decide) dX4_train_16 (by decide) (by decide) rfl (by decide) ?_
      refine z_aload_n mx mb dX4_train_125 rfl 0 rfl ?_
      refine z_get (C := RX3) (T := TX3) (N := 8) mx mb mts (in_X4_train_X3) mo hK zgw (4 + 15 * 0 + (8 + n)) ((wB_get 0 (8 + n) (by omega) (by omega)).trans (wR_t (by omega))) rfl 7 (by decide) (mts _ (List.mem_of_getElem? (i := 12) rfl)) (fun _ h9 => h9) rfl dX4_train_126 ?_
      rw [hQ]
      exact z_retI mx mb mr mlk hK () (by show iZ _ = iZ _; rw [t16, hn]; exact congrArg iZ (rt n hn4.1 7 (by omega) (by omega))) rfl dX4_train_129
    · skip
      exact absurd t16 (by omega)
  subst hQ
  subst hw0
  exact hstart

theorem in_X4_why_X0 : ∀ w ∈ wsX00, w ∈ wsX4_why := by decide +kernel
theorem in_X4_why_X4 : ∀ w ∈ wsX40, w ∈ wsX4_why := by decide +kernel
set_option maxRecDepth 100000 in
set_option maxHeartbeats 4000000 in
theorem c_X4_why (l : Launch) (D : va_G) (sz : Nat) (y : Nat → ClassId) (o : Nat → Nat) (a : Nat → Nat → Nat) (S : Nat → Nat → Int → Int) (tb : Nat → Nat) (x : Int → Int) (ln sc : Int) (f : Int → Int) (t : Int) (hR : Rel f (S 0)) (hI : Inv 100000 f) (kp : Kp f) (ht : 0 ≤ t ∧ t < f 2) : Met l yX4_why wsX4_why ({ frames := 3, cells := 0, slots := 0, locals := 67 } : Room) (zPw D vwCl (zT y) (wBq y o a S tb x ln sc (sav a) p6) sz [.ref (o 0), .int (iZ t)]) (va_Qi (fun (r : Int32) (_ : Unit) => r = iZ (whyOf f t)) (zB D vwCl (zT y) (wBq y o a S tb x ln sc (sav a) p6) sz (fun _ : Unit => wBq y o a S tb x ln sc (sav a) p6)) (va_A (wBq y o a S tb x ln sc (sav a) p6) sz)) 0 0 (va_A (wBq y o a S tb x ln sc (sav a) p6) sz) := by
  refine z_headW (cc := cX4_why) (maxL := 2) (ret := (some .int)) [(0, .ref (o 0)), (1, .int (iZ t))] rfl (Nat.le_of_ble_eq_true rfl) (by decide +kernel) rfl ?_
  intro pp ee ss mm below meth cd mx mb mr mml mo mts mlk hK hname hsz hA
  generalize ([.ref (o 0), .int (iZ t)] : List Value).toArray = args at mts ⊢
  obtain ⟨wst, hw0⟩ : ∃ wst, wst = wBq y o a S tb x ln sc (sav a) p6 := ⟨_, rfl⟩
  have hA : ∀ q, ss.heap.size ≤ q → va_A wst sz q := by rw [hw0]; exact hA
  obtain ⟨Q, hQ⟩ : ∃ Q, Q = MQ below (va_Qi (fun (r : Int32) (_ : Unit) => r = iZ (whyOf f t)) (zB D vwCl (zT y) wst sz (fun _ : Unit => wBq y o a S tb x ln sc (sav a) p6)) (va_A wst sz)) args ss 0 0 (va_A wst sz) := ⟨_, rfl⟩
  have hstart : Gz pp l ee ({ frames := 3, cells := 0, slots := 0, locals := 67 } : Room) ss mm args below meth cd 2 0 0 Q (Zw D vwCl (va_A wst sz) ss (wBq y o a S tb x ln sc (sav a) p6)) 0 [(0, .ref (o 0)), (1, .int (iZ t))] [] := by
    obtain ⟨hW, hN, hT⟩ := (Inv_Jy hI).f
    obtain ⟨w0, w1, w2, w3, w4, w5, w6⟩ := id hW
    obtain ⟨n3, n4, n5, n6, n7, n8, n9, n10⟩ := id hN
    obtain ⟨⟨r0, r1, r2, r3, r4⟩, rc, rb, ⟨s0, s1, s2, s3⟩, rt, rl⟩ := id hR
    obtain ⟨kA, hG, hS9⟩ := id kp
    obtain ⟨n, hn⟩ : ∃ n : Nat, t = (n : Int) := ⟨t.toNat, by omega⟩
    have hn4 : (n : Int) < f 2 ∧ n < 4 := by omega
    have tn := hT (n : Int) (by omega) (by omega)
    obtain ⟨T1, T2, T3, T5, T7⟩ := tn
    refine z_aload_n mx mb dX4_why_0 rfl 0 rfl ?_
    refine z_iload_n mx mb dX4_why_1 rfl 1 rfl ?_
    refine z_callV0 (As := [.int (iZ t)]) (rest := []) ⟨mx, mb, mml, mo, mts⟩ hK hA (fun sz => c_X4_requireTrain l D sz y o a S tb x ln sc f t hR hI kp (by omega)) (cwV 1 mts gX4_why_X4_requireTrain rfl rfl rfl (by decide +kernel) ⟨Nat.le_of_ble_eq_true rfl, Nat.le_of_ble_eq_true rfl⟩) 0 wB_0 rfl rfl rfl rfl (Nat.le_of_ble_eq_true rfl) ⟨Nat.zero_le _, Nat.zero_le _⟩ dX4_why_2 (fun u2 hu2 => ?_)
    show Gz pp l ee ({ frames := 3, cells := 0, slots := 0, locals := 67 } : Room) ss mm args below meth cd 2 0 0 Q (Zw D vwCl (va_A wst sz) ss (wBq y o a S tb x ln sc (sav a) p6)) 5 [(0, .ref (o 0)), (1, .int (iZ t))] []
    refine z_aload_n mx mb dX4_why_5 rfl 0 rfl ?_
    refine z_get (C := RX4) (T := TX4) (N := 5) mx mb mts (in_X4_why_X4) mo hK zgw 0 wB_0 rfl 0 (by decide) (mts _ (List.mem_of_getElem? (i := 1) rfl)) (fun _ h9 => h9) rfl dX4_why_6 ?_
    refine z_aload_n mx mb dX4_why_9 rfl 0 rfl ?_
    refine z_get (C := RX4) (T := TX4) (N := 5) mx mb mts (in_X4_why_X4) mo hK zgw 0 wB_0 rfl 0 (by decide) (mts _ (List.mem_of_getElem? (i := 1) rfl)) (fun _ h9 => h9) rfl dX4_why_10 ?_
    refine z_get (C := RX0) (T := TX0) (N := 9) mx mb mts (in_X4_why_X0) mo hK zgw (4 + 15 * 0 + 0) ((wB_get 0 0 (by omega) (by omega)).trans wR_0) rfl 1 (by decide) (mts _ (List.mem_of_getElem? (i := 2) rfl)) (fun _ h9 => h9) rfl dX4_why_13 ?_
    refine z_iload_n mx mb dX4_why_16 rfl 1 rfl ?_
    refine z_top (show t = (n : Int) from by exact hn) ?_
    refine z_aald (i := n) mx mb hK zgw (4 + 15 * 0 + 6) 1 ((wB_get 0 6 (by omega) (by omega)).trans wR_6) rfl (by decide) (by omega) dX4_why_17 ?_
    refine z_callP (As := [.ref (a 0 (8 + n))]) (rest := []) ⟨mx, mb, mml, mo, mts⟩ hK zgw (c_X0_reasonOf l D y (a 0) (S 0) f n (by omega) (by omega) (by assumption) (by assumption) (by assumption) (by assumption) (by assumption)) (cwV 1 mts gX4_why_X0_reasonOf rfl rfl rfl (by decide +kernel) ⟨Nat.le_of_ble_eq_true rfl, Nat.le_of_ble_eq_true rfl⟩) (wB_in 0 (by omega)) (4 + 15 * 0 + 0) ((wB_get 0 0 (by omega) (by omega)).trans wR_0) rfl rfl rfl rfl (Nat.le_of_ble_eq_true rfl) ⟨Nat.zero_le _, Nat.zero_le _⟩ dX4_why_18 ?_
    rw [hQ]
    exact z_retI mx mb mr mlk hK () (by show iZ _ = iZ _; rw [hn]) rfl dX4_why_21
  subst hQ
  subst hw0
  exact hstart

theorem in_X4_dispatch_X0 : ∀ w ∈ wsX00, w ∈ wsX4_dispatch := by decide +kernel
theorem in_X4_dispatch_X4 : ∀ w ∈ wsX40, w ∈ wsX4_dispatch := by decide +kernel
set_option maxRecDepth 100000 in
set_option maxHeartbeats 4000000 in
theorem c_X4_dispatch (l : Launch) (D : va_G) (sz : Nat) (y : Nat → ClassId) (o : Nat → Nat) (a : Nat → Nat → Nat) (S : Nat → Nat → Int → Int) (tb : Nat → Nat) (x : Int → Int) (ln sc : Int) (f : Int → Int) (i w : Int) (hR : Rel f (S 0)) (hI : Inv 100000 f) (kp : Kp f) (hi : 0 ≤ i ∧ i < f 10) (hw9 : 0 ≤ w ∧ w ≤ 1) : Met l yX4_dispatch wsX4_dispatch ({ frames := 2, cells := 0, slots := 0, locals := 33 } : Room) (zPw D vwCl (zT y) (wBq y o a S tb x ln sc (sav a) p6) sz [.ref (o 0), .int (iZ i), .int (iZ w)]) (va_Qi (fun (r : Int32) (_ : Unit) => r = iZ (f (111 + 2 * (f 10 - 1 - i) + w))) (zB D vwCl (zT y) (wBq y o a S tb x ln sc (sav a) p6) sz (fun _ : Unit => wBq y o a S tb x ln sc (sav a) p6)) (va_A (wBq y o a S tb x ln sc (sav a) p6) sz)) 0 0 (va_A (wBq y o a S tb x ln sc (sav a) p6) sz) := by
  refine z_headW (cc := cX4_dispatch) (maxL := 4) (ret := (some .int)) [(0, .ref (o 0)), (1, .int (iZ i)), (2, .int (iZ w))] rfl (Nat.le_of_ble_eq_true rfl) (by decide +kernel) rfl ?_
  intro pp ee ss mm below meth cd mx mb mr mml mo mts mlk hK hname hsz hA
  generalize ([.ref (o 0), .int (iZ i), .int (iZ w)] : List Value).toArray = args at mts ⊢
  obtain ⟨wst, hw0⟩ : ∃ wst, wst = wBq y o a S tb x ln sc (sav a) p6 := ⟨_, rfl⟩
  have hA : ∀ q, ss.heap.size ≤ q → va_A wst sz q := by rw [hw0]; exact hA
  obtain ⟨Q, hQ⟩ : ∃ Q, Q = MQ below (va_Qi (fun (r : Int32) (_ : Unit) => r = iZ (f (111 + 2 * (f 10 - 1 - i) + w))) (zB D vwCl (zT y) wst sz (fun _ : Unit => wBq y o a S tb x ln sc (sav a) p6)) (va_A wst sz)) args ss 0 0 (va_A wst sz) := ⟨_, rfl⟩
  have hstart : Gz pp l ee ({ frames := 2, cells := 0, slots := 0, locals := 33 } : Room) ss mm args below meth cd 4 0 0 Q (Zw D vwCl (va_A wst sz) ss (wBq y o a S tb x ln sc (sav a) p6)) 0 [(0, .ref (o 0)), (1, .int (iZ i)), (2, .int (iZ w))] [] := by
    obtain ⟨hW, hN, hT⟩ := (Inv_Jy hI).f
    obtain ⟨w0, w1, w2, w3, w4, w5, w6⟩ := id hW
    obtain ⟨n3, n4, n5, n6, n7, n8, n9, n10⟩ := id hN
    obtain ⟨⟨r0, r1, r2, r3, r4⟩, rc, rb, ⟨s0, s1, s2, s3⟩, rt, rl⟩ := id hR
    obtain ⟨kA, hG, hS9⟩ := id kp
    obtain ⟨gg1, gg2, gg3⟩ := id hG
    have g8 : f 10 ≤ f 8 := (by rw [gg1]; split <;> omega)
    refine z_iload_n mx mb dX4_dispatch_0 rfl 1 rfl ?_
    refine z_if_lt (tgt := 15) mx mb (by omega) dX4_dispatch_1 (by decide) (fun c1 => ?_) (fun c1 => ?_)
    · skip
      exact absurd c1 (by omega)
    · skip
      refine z_iload_n mx mb dX4_dispatch_4 rfl 1 rfl ?_
      refine z_aload_n mx mb dX4_dispatch_5 rfl 0 rfl ?_
      refine z_get (C := RX4) (T := TX4) (N := 5) mx mb mts (in_X4_dispatch_X4) mo hK zgw 0 wB_0 rfl 0 (by decide) (mts _ (List.mem_of_getElem? (i := 5) rfl)) (fun _ h9 => h9) rfl dX4_dispatch_6 ?_
      refine z_callP (As := []) (rest := [.int (iZ i)]) ⟨mx, mb, mml, mo, mts⟩ hK zgw (c_X0_keptDispatches l D y (a 0) (S 0) f  (by assumption) (by assumption) (by assumption)) (cwV 0 mts gX4_dispatch_X0_keptDispatches rfl rfl rfl (by decide +kernel) ⟨Nat.le_of_ble_eq_true rfl, Nat.le_of_ble_eq_true rfl⟩) (wB_in 0 (by omega)) (4 + 15 * 0 + 0) ((wB_get 0 0 (by omega) (by omega)).trans wR_0) rfl rfl rfl rfl (Nat.le_of_ble_eq_true rfl) ⟨Nat.zero_le _, Nat.zero_le _⟩ dX4_dispatch_9 ?_
      refine z_icmp_lt (tgt := 25) mx mb (by omega) (by omega) dX4_dispatch_12 (by decide) (fun c12 => ?_) (fun c12 => ?_)
      · skip
        refine z_aload_n mx mb dX4_dispatch_25 rfl 0 rfl ?_
        refine z_get (C := RX4) (T := TX4) (N := 5) mx mb mts (in_X4_dispatch_X4) mo hK zgw 0 wB_0 rfl 0 (by decide) (mts _ (List.mem_of_getElem? (i := 5) rfl)) (fun _ h9 => h9) rfl dX4_dispatch_26 ?_
        refine z_iload_n mx mb dX4_dispatch_29 rfl 1 rfl ?_
        refine z_callP (As := [.int (iZ i)]) (rest := []) ⟨mx, mb, mml, mo, mts⟩ hK zgw (c_X0_logPlace l D y (a 0) (S 0) f i (show 0 ≤ i ∧ i ≤ S 0 0 2 - 1 ∧ S 0 0 2 ≤ 2000000 by omega)) (cwV 1 mts gX4_dispatch_X0_logPlace rfl rfl rfl (by decide +kernel) ⟨Nat.le_of_ble_eq_true rfl, Nat.le_of_ble_eq_true rfl⟩) (wB_in 0 (by omega)) (4 + 15 * 0 + 0) ((wB_get 0 0 (by omega) (by omega)).trans wR_0) rfl rfl rfl rfl (Nat.le_of_ble_eq_true rfl) ⟨Nat.zero_le _, Nat.zero_le _⟩ dX4_dispatch_30 ?_
        refine z_top (show ((S 0) 0 2 - 1 - i) % 30 = (f 8 - 1 - i) % 30 from by rw [r4]) ?_
        refine z_istore_n mx mb dX4_dispatch_33 rfl (by decide) [(3, .int (iZ ((f 8 - 1 - i) % 30))), (0, .ref (o 0)), (1, .int (iZ i)), (2, .int (iZ w))] rfl ?_
        refine z_iload_n mx mb dX4_dispatch_34 rfl 3 rfl ?_
        rcases (show w = 0 ∨ w = 1 ∨ (w ≠ 0 ∧ w ≠ 1) from by omega) with t35 | t35 | t35
        · skip
          refine z_lookup (off := 25) (tgt := 60) mx mb (by omega) dX4_dispatch_35 (by decide) (by rw [t35]; rfl) (by decide) ?_
          refine z_aload_n mx mb dX4_dispatch_60 rfl 1 rfl ?_
          refine z_get (C := RX4) (T := TX4) (N := 5) mx mb mts (in_X4_dispatch_X4) mo hK zgw 0 wB_0 rfl 0 (by decide) (mts _ (List.mem_of_getElem? (i := 5) rfl)) (fun _ h9 => h9) rfl dX4_dispatch_61 ?_
          refine z_get (C := RX0) (T := TX0) (N := 9) mx mb mts (in_X4_dispatch_X0) mo hK zgw (4 + 15 * 0 + 0) ((wB_get 0 0 (by omega) (by omega)).trans wR_0) rfl 4 (by decide) (mts _ (List.mem_of_getElem? (i := 6) rfl)) (fun _ h9 => h9) rfl dX4_dispatch_64 ?_
          refine z_iload_n mx mb dX4_dispatch_67 rfl 0 rfl ?_
          refine z_iald mx mb hK zgw (4 + 15 * 0 + 13) 0 ((wB_get 0 13 (by omega) (by omega)).trans wR_13) rfl (by decide) (by omega) dX4_dispatch_68 ?_
          rw [hQ]
          exact z_retI mx mb mr mlk hK () (by show iZ _ = iZ _; rw [t35]; rw [Int.add_zero]; exact congrArg iZ (rl i hi.1 hi.2).1) rfl dX4_dispatch_69
        · skip
          refine z_lookup (off := 35) (tgt := 70) mx mb (by omega) dX4_dispatch_35 (by decide) (by rw [t35]; rfl) (by decide) ?_
          refine z_aload_n mx mb dX4_dispatch_70 rfl 1 rfl ?_
          refine z_get (C := RX4) (T := TX4) (N := 5) mx mb mts (in_X4_dispatch_X4) mo hK zgw 0 wB_0 rfl 0 (by decide) (mts _ (List.mem_of_getElem? (i := 5) rfl)) (fun _ h9 => h9) rfl dX4_dispatch_71 ?_
          refine z_get (C := RX0) (T := TX0) (N := 9) mx mb mts (in_X4_dispatch_X0) mo hK zgw (4 + 15 * 0 + 0) ((wB_get 0 0 (by omega) (by omega)).trans wR_0) rfl 5 (by decide) (mts _ (List.mem_of_getElem? (i := 7) rfl)) (fun _ h9 => h9) rfl dX4_dispatch_74 ?_
          refine z_iload_n mx mb dX4_dispatch_77 rfl 0 rfl ?_
          refine z_iald mx mb hK zgw (4 + 15 * 0 + 14) 0 ((wB_get 0 14 (by omega) (by omega)).trans wR_14) rfl (by decide) (by omega) dX4_dispatch_78 ?_
          rw [hQ]
          exact z_retI mx mb mr mlk hK () (by show iZ _ = iZ _; rw [t35]; exact congrArg iZ (rl i hi.1 hi.2).2) rfl dX4_dispatch_79
        · skip
          exact absurd t35 (by omega)
      · skip
        exact absurd c12 (by omega)
  subst hQ
  subst hw0
  exact hstart

theorem in_X4_leastSquare_X0 : ∀ w ∈ wsX00, w ∈ wsX4_leastSquare := by decide +kernel
theorem in_X4_leastSquare_X4 : ∀ w ∈ wsX40, w ∈ wsX4_leastSquare := by decide +kernel
set_option maxRecDepth 100000 in
set_option maxHeartbeats 4000000 in
theorem c_X4_leastSquare (l : Launch) (D : va_G) (sz : Nat) (y : Nat → ClassId) (o : Nat → Nat) (a : Nat → Nat → Nat) (S : Nat → Nat → Int → Int) (tb : Nat → Nat) (x : Int → Int) (ln sc : Int) (f : Int → Int) (c : Int) (hR : Rel f (S 0)) (hI : Inv 100000 f) (kp : Kp f) (hc : 0 ≤ c ∧ c < f 0) : Met l yX4_leastSquare wsX4_leastSquare ({ frames := 4, cells := 0, slots := 0, locals := 97 } : Room) (zPw D vwCl (zT y) (wBq y o a S tb x ln sc (sav a) p6) sz [.ref (o 0), .int (iZ c)]) (va_Qi (fun (r : Int32) (_ : Unit) => r = iZ (leastS f c)) (zB D vwCl (zT y) (wBq y o a S tb x ln sc (sav a) p6) sz (fun _ : Unit => wBq y o a S tb x ln sc (sav a) p6)) (va_A (wBq y o a S tb x ln sc (sav a) p6) sz)) 0 0 (va_A (wBq y o a S tb x ln sc (sav a) p6) sz) := by
  refine z_headW (cc := cX4_leastSquare) (maxL := 2) (ret := (some .int)) [(0, .ref (o 0)), (1, .int (iZ c))] rfl (Nat.le_of_ble_eq_true rfl) (by decide +kernel) rfl ?_
  intro pp ee ss mm below meth cd mx mb mr mml mo mts mlk hK hname hsz hA
  generalize ([.ref (o 0), .int (iZ c)] : List Value).toArray = args at mts ⊢
  obtain ⟨wst, hw0⟩ : ∃ wst, wst = wBq y o a S tb x ln sc (sav a) p6 := ⟨_, rfl⟩
  have hA : ∀ q, ss.heap.size ≤ q → va_A wst sz q := by rw [hw0]; exact hA
  obtain ⟨Q, hQ⟩ : ∃ Q, Q = MQ below (va_Qi (fun (r : Int32) (_ : Unit) => r = iZ (leastS f c)) (zB D vwCl (zT y) wst sz (fun _ : Unit => wBq y o a S tb x ln sc (sav a) p6)) (va_A wst sz)) args ss 0 0 (va_A wst sz) := ⟨_, rfl⟩
  have hstart : Gz pp l ee ({ frames := 4, cells := 0, slots := 0, locals := 97 } : Room) ss mm args below meth cd 2 0 0 Q (Zw D vwCl (va_A wst sz) ss (wBq y o a S tb x ln sc (sav a) p6)) 0 [(0, .ref (o 0)), (1, .int (iZ c))] [] := by
    obtain ⟨hW, hN, hT⟩ := (Inv_Jy hI).f
    obtain ⟨w0, w1, w2, w3, w4, w5, w6⟩ := id hW
    obtain ⟨n3, n4, n5, n6, n7, n8, n9, n10⟩ := id hN
    obtain ⟨⟨r0, r1, r2, r3, r4⟩, rc, rb, ⟨s0, s1, s2, s3⟩, rt, rl⟩ := id hR
    obtain ⟨kA, hG, hS9⟩ := id kp
    refine z_aload_n mx mb dX4_leastSquare_0 rfl 0 rfl ?_
    refine z_iload_n mx mb dX4_leastSquare_1 rfl 1 rfl ?_
    refine z_callV0 (As := [.int (iZ c)]) (rest := []) ⟨mx, mb, mml, mo, mts⟩ hK hA (fun sz => c_X4_requireCell l D sz y o a S tb x ln sc f c hR hI kp (by omega)) (cwV 1 mts gX4_leastSquare_X4_requireCell rfl rfl rfl (by decide +kernel) ⟨Nat.le_of_ble_eq_true rfl, Nat.le_of_ble_eq_true rfl⟩) 0 wB_0 rfl rfl rfl rfl (Nat.le_of_ble_eq_true rfl) ⟨Nat.zero_le _, Nat.zero_le _⟩ dX4_leastSquare_2 (fun u2 hu2 => ?_)
    show Gz pp l ee ({ frames := 4, cells := 0, slots := 0, locals := 97 } : Room) ss mm args below meth cd 2 0 0 Q (Zw D vwCl (va_A wst sz) ss (wBq y o a S tb x ln sc (sav a) p6)) 5 [(0, .ref (o 0)), (1, .int (iZ c))] []
    refine z_aload_n mx mb dX4_leastSquare_5 rfl 0 rfl ?_
    refine z_get (C := RX4) (T := TX4) (N := 5) mx mb mts (in_X4_leastSquare_X4) mo hK zgw 0 wB_0 rfl 0 (by decide) (mts _ (List.mem_of_getElem? (i := 1) rfl)) (fun _ h9 => h9) rfl dX4_leastSquare_6 ?_
    refine z_get (C := RX0) (T := TX0) (N := 9) mx mb mts (in_X4_leastSquare_X0) mo hK zgw (4 + 15 * 0 + 0) ((wB_get 0 0 (by omega) (by omega)).trans wR_0) rfl 0 (by decide) (mts _ (List.mem_of_getElem? (i := 2) rfl)) (fun _ h9 => h9) rfl dX4_leastSquare_9 ?_
    refine z_iload_n mx mb dX4_leastSquare_12 rfl 1 rfl ?_
    refine z_aload_n mx mb dX4_leastSquare_13 rfl 0 rfl ?_
    refine z_get (C := RX4) (T := TX4) (N := 5) mx mb mts (in_X4_leastSquare_X4) mo hK zgw 0 wB_0 rfl 0 (by decide) (mts _ (List.mem_of_getElem? (i := 1) rfl)) (fun _ h9 => h9) rfl dX4_leastSquare_14 ?_
    refine z_get (C := RX0) (T := TX0) (N := 9) mx mb mts (in_X4_leastSquare_X0) mo hK zgw (4 + 15 * 0 + 0) ((wB_get 0 0 (by omega) (by omega)).trans wR_0) rfl 2 (by decide) (mts _ (List.mem_of_getElem? (i := 3) rfl)) (fun _ h9 => h9) rfl dX4_leastSquare_17 ?_
    refine z_iconst mx mb dX4_leastSquare_20 ?_
    refine z_iald mx mb hK zgw (4 + 15 * 0 + 7) 0 ((wB_get 0 7 (by omega) (by omega)).trans wR_7) rfl (by decide) (by omega) dX4_leastSquare_21 ?_
    refine z_top (show ((S 0) 7) 0 = f 4 from by exact s0) ?_
    refine z_callP (As := [.int (iZ c), .int (iZ (f 4))]) (rest := []) ⟨mx, mb, mml, mo, mts⟩ hK zgw (c_X1_leastSquareToBrake l D y (a 0) (S 0) f c (f 4) (by omega) rfl (by omega) (by assumption) (by assumption)) (cwV 2 mts gX4_leastSquare_X1_leastSquareToBrake rfl rfl rfl (by decide +kernel) ⟨Nat.le_of_ble_eq_true rfl, Nat.le_of_ble_eq_true rfl⟩) (wB_in 0 (by omega)) (4 + 15 * 0 + 1) ((wB_get 0 1 (by omega) (by omega)).trans wR_1) rfl rfl rfl rfl (Nat.le_of_ble_eq_true rfl) ⟨Nat.zero_le _, Nat.zero_le _⟩ dX4_leastSquare_22 ?_
    rw [hQ]
    exact z_retI mx mb mr mlk hK () (by rfl) rfl dX4_leastSquare_25
  subst hQ
  subst hw0
  exact hstart

theorem in_X4_ticksToValley_X0 : ∀ w ∈ wsX00, w ∈ wsX4_ticksToValley := by decide +kernel
theorem in_X4_ticksToValley_X4 : ∀ w ∈ wsX40, w ∈ wsX4_ticksToValley := by decide +kernel
set_option maxRecDepth 100000 in
set_option maxHeartbeats 4000000 in
theorem c_X4_ticksToValley (l : Launch) (D : va_G) (sz : Nat) (y : Nat → ClassId) (o : Nat → Nat) (a : Nat → Nat → Nat) (S : Nat → Nat → Int → Int) (tb : Nat → Nat) (x : Int → Int) (ln sc : Int) (f : Int → Int) (hR : Rel f (S 0)) (hI : Inv 100000 f) (kp : Kp f) : Met l yX4_ticksToValley wsX4_ticksToValley ({ frames := 6, cells := 0, slots := 0, locals := 134 } : Room) (zPw D vwCl (zT y) (wBq y o a S tb x ln sc (sav a) p6) sz [.ref (o 0)]) (va_Qi (fun (r : Int32) (S' : Nat → Nat → Int → Int) => r = iZ (toValley f 2000) ∧ ∀ j : Nat, j ≠ 1 → S' j = S j) (zB D vwCl (zT y) (wBq y o a S tb x ln sc (sav a) p6) sz (fun S' : Nat → Nat → Int → Int => wBq y o a S' tb x ln sc (sav a) p6)) (va_A (wBq y o a S tb x ln sc (sav a) p6) sz)) 0 0 (va_A (wBq y o a S tb x ln sc (sav a) p6) sz) := by
  refine z_headW (cc := cX4_ticksToValley) (maxL := 1) (ret := (some .int)) [(0, .ref (o 0))] rfl (Nat.le_of_ble_eq_true rfl) (by decide +kernel) rfl ?_
  intro pp ee ss mm below meth cd mx mb mr mml mo mts mlk hK hname hsz hA
  generalize ([.ref (o 0)] : List Value).toArray = args at mts ⊢
  obtain ⟨wst, hw0⟩ : ∃ wst, wst = wBq y o a S tb x ln sc (sav a) p6 := ⟨_, rfl⟩
  have hA : ∀ q, ss.heap.size ≤ q → va_A wst sz q := by rw [hw0]; exact hA
  obtain ⟨Q, hQ⟩ : ∃ Q, Q = MQ below (va_Qi (fun (r : Int32) (S' : Nat → Nat → Int → Int) => r = iZ (toValley f 2000) ∧ ∀ j : Nat, j ≠ 1 → S' j = S j) (zB D vwCl (zT y) wst sz (fun S' : Nat → Nat → Int → Int => wBq y o a S' tb x ln sc (sav a) p6)) (va_A wst sz)) args ss 0 0 (va_A wst sz) := ⟨_, rfl⟩
  have hstart : Gz pp l ee ({ frames := 6, cells := 0, slots := 0, locals := 134 } : Room) ss mm args below meth cd 1 0 0 Q (Zw D vwCl (va_A wst sz) ss (wBq y o a S tb x ln sc (sav a) p6)) 0 [(0, .ref (o 0))] [] := by
    obtain ⟨hW, hN, hT⟩ := (Inv_Jy hI).f
    obtain ⟨w0, w1, w2, w3, w4, w5, w6⟩ := id hW
    obtain ⟨n3, n4, n5, n6, n7, n8, n9, n10⟩ := id hN
    obtain ⟨⟨r0, r1, r2, r3, r4⟩, rc, rb, ⟨s0, s1, s2, s3⟩, rt, rl⟩ := id hR
    refine z_aload_n mx mb dX4_ticksToValley_0 rfl 0 rfl ?_
    refine z_aload_n mx mb dX4_ticksToValley_1 rfl 0 rfl ?_
    refine z_get (C := RX4) (T := TX4) (N := 5) mx mb mts (in_X4_ticksToValley_X4) mo hK zgw 0 wB_0 rfl 0 (by decide) (mts _ (List.mem_of_getElem? (i := 1) rfl)) (fun _ h9 => h9) rfl dX4_ticksToValley_2 ?_
    refine z_get (C := RX0) (T := TX0) (N := 9) mx mb mts (in_X4_ticksToValley_X0) mo hK zgw (4 + 15 * 0 + 0) ((wB_get 0 0 (by omega) (by omega)).trans wR_0) rfl 2 (by decide) (mts _ (List.mem_of_getElem? (i := 2) rfl)) (fun _ h9 => h9) rfl dX4_ticksToValley_5 ?_
    refine z_iconst mx mb dX4_ticksToValley_8 ?_
    refine z_iald mx mb hK zgw (4 + 15 * 0 + 7) 0 ((wB_get 0 7 (by omega) (by omega)).trans wR_7) rfl (by decide) (by omega) dX4_ticksToValley_9 ?_
    refine z_top (show ((S 0) 7) 0 = f 4 from by exact s0) ?_
    refine z_sipush mx mb dX4_ticksToValley_10 (by decide +kernel) ?_
    refine z_callI0 (As := [.int (iZ (f 4)), .int (iZ 2000)]) (rest := []) ⟨mx, mb, mml, mo, mts⟩ hK hA (fun sz => c_X4_nextValley l D sz y o a S tb x ln sc f (f 4) 2000 hR hI kp (by omega) (by omega)) (cwV 2 mts gX4_ticksToValley_X4_nextValley rfl rfl rfl (by decide +kernel) ⟨Nat.le_of_ble_eq_true rfl, Nat.le_of_ble_eq_true rfl⟩) 0 wB_0 rfl rfl rfl rfl (Nat.le_of_ble_eq_true rfl) ⟨Nat.zero_le _, Nat.zero_le _⟩ dX4_ticksToValley_13 (fun r13 u13 hu13 => ?_)
    obtain ⟨er13, so13⟩ := hu13
    obtain rfl : r13 = iZ (toValley (zu f 4 (f 4)) 2000) := er13
    show Gz pp l ee ({ frames := 6, cells := 0, slots := 0, locals := 134 } : Room) ss mm args below meth cd 1 0 0 Q (Zw D vwCl (va_A wst sz) ss (wBq y o a u13 tb x ln sc (sav a) p6)) 16 [(0, .ref (o 0))] [.int (iZ (toValley (zu f 4 (f 4)) 2000))]
    rw [hQ]
    exact z_retI mx mb mr mlk hK u13 (by exact ⟨by rw [show zu f 4 (f 4) = f from zu_id rfl], so13⟩) rfl dX4_ticksToValley_16
  subst hQ
  subst hw0
  exact hstart
