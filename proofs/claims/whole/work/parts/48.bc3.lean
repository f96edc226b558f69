theorem in_X4_requireCell_X0 : ∀ w ∈ wsX00, w ∈ wsX4_requireCell := by decide +kernel
theorem in_X4_requireCell_X1 : ∀ w ∈ wsX10, w ∈ wsX4_requireCell := by decide +kernel
theorem in_X4_requireCell_X4 : ∀ w ∈ wsX40, w ∈ wsX4_requireCell := by decide +kernel
set_option maxRecDepth 100000 in
set_option maxHeartbeats 4000000 in
theorem c_X4_requireCell (l : Launch) (D : va_G) (sz : Nat) (y : Nat → ClassId) (o : Nat → Nat) (a : Nat → Nat → Nat) (S : Nat → Nat → Int → Int) (tb : Nat → Nat) (x : Int → Int) (ln sc : Int) (f : Int → Int) (c : Int) (hR : Rel f (S 0)) (hI : Inv 100000 f) (kp : Kp f) (hc : 0 ≤ c ∧ c < f 0) : Met l yX4_requireCell wsX4_requireCell ({ frames := 0, cells := 0, slots := 0, locals := 0 } : Room) (zPw D vwCl (zT y) (wBq y o a S tb x ln sc (sav a) p6) sz [.ref (o 0), .int (iZ c)]) (va_Qv (fun _ : Unit => True) (zB D vwCl (zT y) (wBq y o a S tb x ln sc (sav a) p6) sz (fun _ : Unit => wBq y o a S tb x ln sc (sav a) p6)) (va_A (wBq y o a S tb x ln sc (sav a) p6) sz)) 0 0 (va_A (wBq y o a S tb x ln sc (sav a) p6) sz) := by
  refine z_headW (cc := cX4_requireCell) (maxL := 2) (ret := none) [(0, .ref (o 0)), (1, .int (iZ c))] rfl (Nat.le_of_ble_eq_true rfl) (by decide +kernel) rfl ?_
  intro pp ee ss mm below meth cd mx mb mr mml mo mts mlk hK hname hsz hA
  generalize ([.ref (o 0), .int (iZ c)] : List Value).toArray = args at mts ⊢
  obtain ⟨wst, hw0⟩ : ∃ wst, wst = wBq y o a S tb x ln sc (sav a) p6 := ⟨_, rfl⟩
  have hA : ∀ q, ss.heap.size ≤ q → va_A wst sz q := by rw [hw0]; exact hA
  obtain ⟨Q, hQ⟩ : ∃ Q, Q = MQ below (va_Qv (fun _ : Unit => True) (zB D vwCl (zT y) wst sz (fun _ : Unit => wBq y o a S tb x ln sc (sav a) p6)) (va_A wst sz)) args ss 0 0 (va_A wst sz) := ⟨_, rfl⟩
  have hstart : Gz pp l ee ({ frames := 0, cells := 0, slots := 0, locals := 0 } : Room) ss mm args below meth cd 2 0 0 Q (Zw D vwCl (va_A wst sz) ss (wBq y o a S tb x ln sc (sav a) p6)) 0 [(0, .ref (o 0)), (1, .int (iZ c))] [] := by
    obtain ⟨hW, hN, hT⟩ := (Inv_Jy hI).f
    obtain ⟨w0, w1, w2, w3, w4, w5, w6⟩ := id hW
    obtain ⟨n3, n4, n5, n6, n7, n8, n9, n10⟩ := id hN
    obtain ⟨⟨r0, r1, r2, r3, r4⟩, rc, rb, ⟨s0, s1, s2, s3⟩, rt, rl⟩ := id hR
    obtain ⟨kA, hG, hS9⟩ := id kp
    refine z_iload_n mx mb dX4_requireCell_0 rfl 1 rfl ?_
    refine z_if_lt (tgt := 18) mx mb (by omega) dX4_requireCell_1 (by decide) (fun c1 => ?_) (fun c1 => ?_)
    · skip
      exact absurd c1 (by omega)
    · skip
      refine z_iload_n mx mb dX4_requireCell_4 rfl 1 rfl ?_
      refine z_aload_n mx mb dX4_requireCell_5 rfl 0 rfl ?_
      refine z_get (C := RX4) (T := TX4) (N := 5) mx mb mts (in_X4_requireCell_X4) mo hK zgw 0 wB_0 rfl 0 (by decide) (mts _ (List.mem_of_getElem? (i := 3) rfl)) (fun _ h9 => h9) rfl dX4_requireCell_6 ?_
      refine z_get (C := RX0) (T := TX0) (N := 9) mx mb mts (in_X4_requireCell_X0) mo hK zgw (4 + 15 * 0 + 0) ((wB_get 0 0 (by omega) (by omega)).trans wR_0) rfl 0 (by decide) (mts _ (List.mem_of_getElem? (i := 4) rfl)) (fun _ h9 => h9) rfl dX4_requireCell_9 ?_
      refine z_get (C := RX1) (T := TX1) (N := 6) mx mb mts (in_X4_requireCell_X1) mo hK zgw (4 + 15 * 0 + 1) ((wB_get 0 1 (by omega) (by omega)).trans wR_1) rfl 4 (by decide) (mts _ (List.mem_of_getElem? (i := 5) rfl)) (fun _ h9 => h9) rfl dX4_requireCell_12 ?_
      refine z_top (show (S 0) 1 0 = f 0 from by exact r0) ?_
      refine z_icmp_lt (tgt := 29) mx mb (by omega) (by omega) dX4_requireCell_15 (by decide) (fun c15 => ?_) (fun c15 => ?_)
      · skip
        rw [hQ]
        exact z_retV mx mb mr mlk hK () (by trivial) rfl dX4_requireCell_29
      · skip
        exact absurd c15 (by omega)
  subst hQ
  subst hw0
  exact hstart

theorem in_X4_requireBlock_X0 : ∀ w ∈ wsX00, w ∈ wsX4_requireBlock := by decide +kernel
theorem in_X4_requireBlock_X1 : ∀ w ∈ wsX10, w ∈ wsX4_requireBlock := by decide +kernel
theorem in_X4_requireBlock_X4 : ∀ w ∈ wsX40, w ∈ wsX4_requireBlock := by decide +kernel
set_option maxRecDepth 100000 in
set_option maxHeartbeats 4000000 in
theorem c_X4_requireBlock (l : Launch) (D : va_G) (sz : Nat) (y : Nat → ClassId) (o : Nat → Nat) (a : Nat → Nat → Nat) (S : Nat → Nat → Int → Int) (tb : Nat → Nat) (x : Int → Int) (ln sc : Int) (f : Int → Int) (c : Int) (hR : Rel f (S 0)) (hI : Inv 100000 f) (kp : Kp f) (hc : 0 ≤ c ∧ c < f 1) : Met l yX4_requireBlock wsX4_requireBlock ({ frames := 0, cells := 0, slots := 0, locals := 0 } : Room) (zPw D vwCl (zT y) (wBq y o a S tb x ln sc (sav a) p6) sz [.ref (o 0), .int (iZ c)]) (va_Qv (fun _ : Unit => True) (zB D vwCl (zT y) (wBq y o a S tb x ln sc (sav a) p6) sz (fun _ : Unit => wBq y o a S tb x ln sc (sav a) p6)) (va_A (wBq y o a S tb x ln sc (sav a) p6) sz)) 0 0 (va_A (wBq y o a S tb x ln sc (sav a) p6) sz) := by
  refine z_headW (cc := cX4_requireBlock) (maxL := 2) (ret := none) [(0, .ref (o 0)), (1, .int (iZ c))] rfl (Nat.le_of_ble_eq_true rfl) (by decide +kernel) rfl ?_
  intro pp ee ss mm below meth cd mx mb mr mml mo mts mlk hK hname hsz hA
  generalize ([.ref (o 0), .int (iZ c)] : List Value).toArray = args at mts ⊢
  obtain ⟨wst, hw0⟩ : ∃ wst, wst = wBq y o a S tb x ln sc (sav a) p6 := ⟨_, rfl⟩
  have hA : ∀ q, ss.heap.size ≤ q → va_A wst sz q := by rw [hw0]; exact hA
  obtain ⟨Q, hQ⟩ : ∃ Q, Q = MQ below (va_Qv (fun _ : Unit => True) (zB D vwCl (zT y) wst sz (fun _ : Unit => wBq y o a S tb x ln sc (sav a) p6)) (va_A wst sz)) args ss 0 0 (va_A wst sz) := ⟨_, rfl⟩
  have hstart : Gz pp l ee ({ frames := 0, cells := 0, slots := 0, locals := 0 } : Room) ss mm args below meth cd 2 0 0 Q (Zw D vwCl (va_A wst sz) ss (wBq y o a S tb x ln sc (sav a) p6)) 0 [(0, .ref (o 0)), (1, .int (iZ c))] [] := by
    obtain ⟨hW, hN, hT⟩ := (Inv_Jy hI).f
    obtain ⟨w0, w1, w2, w3, w4, w5, w6⟩ := id hW
    obtain ⟨n3, n4, n5, n6, n7, n8, n9, n10⟩ := id hN
    obtain ⟨⟨r0, r1, r2, r3, r4⟩, rc, rb, ⟨s0, s1, s2, s3⟩, rt, rl⟩ := id hR
    obtain ⟨kA, hG, hS9⟩ := id kp
    refine z_iload_n mx mb dX4_requireBlock_0 rfl 1 rfl ?_
    refine z_if_lt (tgt := 18) mx mb (by omega) dX4_requireBlock_1 (by decide) (fun c1 => ?_) (fun c1 => ?_)
    · skip
      exact absurd c1 (by omega)
    · skip
      refine z_iload_n mx mb dX4_requireBlock_4 rfl 1 rfl ?_
      refine z_aload_n mx mb dX4_requireBlock_5 rfl 0 rfl ?_
      refine z_get (C := RX4) (T := TX4) (N := 5) mx mb mts (in_X4_requireBlock_X4) mo hK zgw 0 wB_0 rfl 0 (by decide) (mts _ (List.mem_of_getElem? (i := 3) rfl)) (fun _ h9 => h9) rfl dX4_requireBlock_6 ?_
      refine z_get (C := RX0) (T := TX0) (N := 9) mx mb mts (in_X4_requireBlock_X0) mo hK zgw (4 + 15 * 0 + 0) ((wB_get 0 0 (by omega) (by omega)).trans wR_0) rfl 0 (by decide) (mts _ (List.mem_of_getElem? (i := 4) rfl)) (fun _ h9 => h9) rfl dX4_requireBlock_9 ?_
      refine z_get (C := RX1) (T := TX1) (N := 6) mx mb mts (in_X4_requireBlock_X1) mo hK zgw (4 + 15 * 0 + 1) ((wB_get 0 1 (by omega) (by omega)).trans wR_1) rfl 5 (by decide) (mts _ (List.mem_of_getElem? (i := 5) rfl)) (fun _ h9 => h9) rfl dX4_requireBlock_12 ?_
      refine z_top (show (S 0) 1 1 = f 1 from by exact r1) ?_
      refine z_icmp_lt (tgt := 29) mx mb (by omega) (by omega) dX4_requireBlock_15 (by decide) (fun c15 => ?_) (fun c15 => ?_)
      · skip
        rw [hQ]
        exact z_retV mx mb mr mlk hK () (by trivial) rfl dX4_requireBlock_29
      · skip
        exact absurd c15 (by omega)
  subst hQ
  subst hw0
  exact hstart

theorem in_X4_requireTrain_X0 : ∀ w ∈ wsX00, w ∈ wsX4_requireTrain := by decide +kernel
theorem in_X4_requireTrain_X4 : ∀ w ∈ wsX40, w ∈ wsX4_requireTrain := by decide +kernel
set_option maxRecDepth 100000 in
set_option maxHeartbeats 4000000 in
theorem c_X4_requireTrain (l : Launch) (D : va_G) (sz : Nat) (y : Nat → ClassId) (o : Nat → Nat) (a : Nat → Nat → Nat) (S : Nat → Nat → Int → Int) (tb : Nat → Nat) (x : Int → Int) (ln sc : Int) (f : Int → Int) (t : Int) (hR : Rel f (S 0)) (hI : Inv 100000 f) (kp : Kp f) (ht : 0 ≤ t ∧ t < f 2) : Met l yX4_requireTrain wsX4_requireTrain ({ frames := 0, cells := 0, slots := 0, locals := 0 } : Room) (zPw D vwCl (zT y) (wBq y o a S tb x ln sc (sav a) p6) sz [.ref (o 0), .int (iZ t)]) (va_Qv (fun _ : Unit => True) (zB D vwCl (zT y) (wBq y o a S tb x ln sc (sav a) p6) sz (fun _ : Unit => wBq y o a S tb x ln sc (sav a) p6)) (va_A (wBq y o a S tb x ln sc (sav a) p6) sz)) 0 0 (va_A (wBq y o a S tb x ln sc (sav a) p6) sz) := by
  refine z_headW (cc := cX4_requireTrain) (maxL := 2) (ret := none) [(0, .ref (o 0)), (1, .int (iZ t))] rfl (Nat.le_of_ble_eq_true rfl) (by decide +kernel) rfl ?_
  intro pp ee ss mm below meth cd mx mb mr mml mo mts mlk hK hname hsz hA
  generalize ([.ref (o 0), .int (iZ t)] : List Value).toArray = args at mts ⊢
  obtain ⟨wst, hw0⟩ : ∃ wst, wst = wBq y o a S tb x ln sc (sav a) p6 := ⟨_, rfl⟩
  have hA : ∀ q, ss.heap.size ≤ q → va_A wst sz q := by rw [hw0]; exact hA
  obtain ⟨Q, hQ⟩ : ∃ Q, Q = MQ below (va_Qv (fun _ : Unit => True) (zB D vwCl (zT y) wst sz (fun _ : Unit => wBq y o a S tb x ln sc (sav a) p6)) (va_A wst sz)) args ss 0 0 (va_A wst sz) := ⟨_, rfl⟩
  have hstart : Gz pp l ee ({ frames := 0, cells := 0, slots := 0, locals := 0 } : Room) ss mm args below meth cd 2 0 0 Q (Zw D vwCl (va_A wst sz) ss (wBq y o a S tb x ln sc (sav a) p6)) 0 [(0, .ref (o 0)), (1, .int (iZ t))] [] := by
    obtain ⟨hW, hN, hT⟩ := (Inv_Jy hI).f
    obtain ⟨w0, w1, w2, w3, w4, w5, w6⟩ := id hW
    obtain ⟨n3, n4, n5, n6, n7, n8, n9, n10⟩ := id hN
    obtain ⟨⟨r0, r1, r2, r3, r4⟩, rc, rb, ⟨s0, s1, s2, s3⟩, rt, rl⟩ := id hR
    obtain ⟨kA, hG, hS9⟩ := id kp
    refine z_iload_n mx mb dX4_requireTrain_0 rfl 1 rfl ?_
    refine z_if_lt (tgt := 15) mx mb (by omega) dX4_requireTrain_1 (by decide) (fun c1 => ?_) (fun c1 => ?_)
    · skip
      exact absurd c1 (by omega)
    · skip
      refine z_iload_n mx mb dX4_requireTrain_4 rfl 1 rfl ?_
      refine z_aload_n mx mb dX4_requireTrain_5 rfl 0 rfl ?_
      refine z_get (C := RX4) (T := TX4) (N := 5) mx mb mts (in_X4_requireTrain_X4) mo hK zgw 0 wB_0 rfl 0 (by decide) (mts _ (List.mem_of_getElem? (i := 3) rfl)) (fun _ h9 => h9) rfl dX4_requireTrain_6 ?_
      refine z_get (C := RX0) (T := TX0) (N := 9) mx mb mts (in_X4_requireTrain_X0) mo hK zgw (4 + 15 * 0 + 0) ((wB_get 0 0 (by omega) (by omega)).trans wR_0) rfl 6 (by decide) (mts _ (List.mem_of_getElem? (i := 4) rfl)) (fun _ h9 => h9) rfl dX4_requireTrain_9 ?_
      refine z_top (show (S 0) 0 0 = f 2 from by exact r2) ?_
      refine z_icmp_lt (tgt := 26) mx mb (by omega) (by omega) dX4_requireTrain_12 (by decide) (fun c12 => ?_) (fun c12 => ?_)
      · skip
        rw [hQ]
        exact z_retV mx mb mr mlk hK () (by trivial) rfl dX4_requireTrain_26
      · skip
        exact absurd c12 (by omega)
  subst hQ
  subst hw0
  exact hstart

theorem in_X4_value_X0 : ∀ w ∈ wsX00, w ∈ wsX4_value := by decide +kernel
theorem in_X4_value_X1 : ∀ w ∈ wsX10, w ∈ wsX4_value := by decide +kernel
theorem in_X4_value_X4 : ∀ w ∈ wsX40, w ∈ wsX4_value := by decide +kernel
set_option maxRecDepth 100000 in
set_option maxHeartbeats 4000000 in
theorem c_X4_value (l : Launch) (D : va_G) (sz : Nat) (y : Nat → ClassId) (o : Nat → Nat) (a : Nat → Nat → Nat) (S : Nat → Nat → Int → Int) (tb : Nat → Nat) (x : Int → Int) (ln sc : Int) (f : Int → Int) (w : Int) (hR : Rel f (S 0)) (hI : Inv 100000 f) (kp : Kp f) (hw9 : 0 ≤ w ∧ w ≤ 11) : Met l yX4_value wsX4_value ({ frames := 2, cells := 0, slots := 0, locals := 41 } : Room) (zPw D vwCl (zT y) (wBq y o a S tb x ln sc (sav a) p6) sz [.ref (o 0), .int (iZ w)]) (va_Qi (fun (r : Int32) (_ : Unit) => r = iZ (valueOf f w)) (zB D vwCl (zT y) (wBq y o a S tb x ln sc (sav a) p6) sz (fun _ : Unit => wBq y o a S tb x ln sc (sav a) p6)) (va_A (wBq y o a S tb x ln sc (sav a) p6) sz)) 0 0 (va_A (wBq y o a S tb x ln sc (sav a) p6) sz) := by
  refine z_headW (cc := cX4_value) (maxL := 2) (ret := (some .int)) [(0, .ref (o 0)), (1, .int (iZ w))] rfl (Nat.le_of_ble_eq_true rfl) (by decide +kernel) rfl ?_
  intro pp ee ss mm below meth cd mx mb mr mml mo mts mlk hK hname hsz hA
  generalize ([.ref (o 0), .int (iZ w)] : List Value).toArray = args at mts ⊢
  obtain ⟨wst, hw0⟩ : ∃ wst, wst = wBq y o a S tb x ln sc (sav a) p6 := ⟨_, rfl⟩
  have hA : ∀ q, ss.heap.size ≤ q → va_A wst sz q := by rw [hw0]; exact hA
  obtain ⟨Q, hQ⟩ : ∃ Q, Q = MQ below (va_Qi (fun (r : Int32) (_ : Unit) => r = iZ (valueOf f w)) (zB D vwCl (zT y) wst sz (fun _ : Unit => wBq y o a S tb x ln sc (sav a) p6)) (va_A wst sz)) args ss 0 0 (va_A wst sz) := ⟨_, rfl⟩
  have hstart : Gz pp l ee ({ frames := 2, cells := 0, slots := 0, locals := 41 } : Room) ss mm args below meth cd 2 0 0 Q (Zw D vwCl (va_A wst sz) ss (wBq y o a S tb x ln sc (sav a) p6)) 0 [(0, .ref (o 0)), (1, .int (iZ w))] [] := by
    obtain ⟨hW, hN, hT⟩ := (Inv_Jy hI).f
    obtain ⟨w0, w1, w2, w3, w4, w5, w6⟩ := id hW
    obtain ⟨n3, n4, n5, n6, n7, n8, n9, n10⟩ := id hN
    obtain ⟨⟨r0, r1, r2, r3, r4⟩, rc, rb, ⟨s0, s1, s2, s3⟩, rt, rl⟩ := id hR
    obtain ⟨kA, hG, hS9⟩ := id kp
    refine z_iload_n mx mb dX4_value_0 rfl 1 rfl ?_
    rcases (show w = 0 ∨ w = 1 ∨ w = 2 ∨ w = 3 ∨ w = 4 ∨ w = 5 ∨ w = 6 ∨ w = 7 ∨ w = 8 ∨ w = 9 ∨ w = 10 ∨ w = 11 ∨ (w < 0 ∨ 11 < w) from by omega) with t1 | t1 | t1 | t1 | t1 | t1 | t1 | t1 | t1 | t1 | t1 | t1 | t1
    · skip
      refine z_tin 0 (tgt := 64) mx mb t1 (by decide) dX4_value_1 (by decide) (by decide) rfl (by decide) ?_
      refine z_aload_n mx mb dX4_value_64 rfl 0 rfl ?_
      refine z_get (C := RX4) (T := TX4) (N := 5) mx mb mts (in_X4_value_X4) mo hK zgw 0 wB_0 rfl 0 (by decide) (mts _ (List.mem_of_getElem? (i := 3) rfl)) (fun _ h9 => h9) rfl dX4_value_65 ?_
      refine z_get (C := RX0) (T := TX0) (N := 9) mx mb mts (in_X4_value_X0) mo hK zgw (4 + 15 * 0 + 0) ((wB_get 0 0 (by omega) (by omega)).trans wR_0) rfl 0 (by decide) (mts _ (List.mem_of_getElem? (i := 4) rfl)) (fun _ h9 => h9) rfl dX4_value_68 ?_
      refine z_get (C := RX1) (T := TX1) (N := 6) mx mb mts (in_X4_value_X1) mo hK zgw (4 + 15 * 0 + 1) ((wB_get 0 1 (by omega) (by omega)).trans wR_1) rfl 4 (by decide) (mts _ (List.mem_of_getElem? (i := 5) rfl)) (fun _ h9 => h9) rfl dX4_value_71 ?_
      rw [hQ]
      exact z_retI mx mb mr mlk hK () (by show iZ _ = iZ _; rw [t1]; exact congrArg iZ r0) rfl dX4_value_74
    · skip
      refine z_tin 1 (tgt := 75) mx mb t1 (by decide) dX4_value_1 (by decide) (by decide) rfl (by decide) ?_
      refine z_aload_n mx mb dX4_value_75 rfl 0 rfl ?_
      refine z_get (C := RX4) (T := TX4) (N := 5) mx mb mts (in_X4_value_X4) mo hK zgw 0 wB_0 rfl 0 (by decide) (mts _ (List.mem_of_getElem? (i := 3) rfl)) (fun _ h9 => h9) rfl dX4_value_76 ?_
      refine z_get (C := RX0) (T := TX0) (N := 9) mx mb mts (in_X4_value_X0) mo hK zgw (4 + 15 * 0 + 0) ((wB_get 0 0 (by omega) (by omega)).trans wR_0) rfl 0 (by decide) (mts _ (List.mem_of_getElem? (i := 4) rfl)) (fun _ h9 => h9) rfl dX4_value_79 ?_
      refine z_get (C := RX1) (T := TX1) (N := 6) mx mb mts (in_X4_value_X1) mo hK zgw (4 + 15 * 0 + 1) ((wB_get 0 1 (by omega) (by omega)).trans wR_1) rfl 5 (by decide) (mts _ (List.mem_of_getElem? (i := 6) rfl)) (fun _ h9 => h9) rfl dX4_value_82 ?_
      rw [hQ]
      exact z_retI mx mb mr mlk hK () (by show iZ _ = iZ _; rw [t1]; exact congrArg iZ r1) rfl dX4_value_85
    · skip
      refine z_tin 2 (tgt := 86) mx mb t1 (by decide) dX4_value_1 (by decide) (by decide) rfl (by decide) ?_
      refine z_aload_n mx mb dX4_value_86 rfl 0 rfl ?_
      refine z_get (C := RX4) (T := TX4) (N := 5) mx mb mts (in_X4_value_X4) mo hK zgw 0 wB_0 rfl 0 (by decide) (mts _ (List.mem_of_getElem? (i := 3) rfl)) (fun _ h9 => h9) rfl dX4_value_87 ?_
      refine z_get (C := RX0) (T := TX0) (N := 9) mx mb mts (in_X4_value_X0) mo hK zgw (4 + 15 * 0 + 0) ((wB_get 0 0 (by omega) (by omega)).trans wR_0) rfl 6 (by decide) (mts _ (List.mem_of_getElem? (i := 7) rfl)) (fun _ h9 => h9) rfl dX4_value_90 ?_
      rw [hQ]
      exact z_retI mx mb mr mlk hK () (by show iZ _ = iZ _; rw [t1]; exact congrArg iZ r2) rfl dX4_value_93
    · skip
      refine z_tin 3 (tgt := 94) mx mb t1 (by decide) dX4_value_1 (by decide) (by decide) rfl (by decide) ?_
      refine z_aload_n mx mb dX4_value_94 rfl 0 rfl ?_
      refine z_get (C := RX4) (T := TX4) (N := 5) mx mb mts (in_X4_value_X4) mo hK zgw 0 wB_0 rfl 0 (by decide) (mts _ (List.mem_of_getElem? (i := 3) rfl)) (fun _ h9 => h9) rfl dX4_value_95 ?_
      refine z_get (C := RX0) (T := TX0) (N := 9) mx mb mts (in_X4_value_X0) mo hK zgw (4 + 15 * 0 + 0) ((wB_get 0 0 (by omega) (by omega)).trans wR_0) rfl 7 (by decide) (mts _ (List.mem_of_getElem? (i := 8) rfl)) (fun _ h9 => h9) rfl dX4_value_98 ?_
      rw [hQ]
      exact z_retI mx mb mr mlk hK () (by show iZ _ = iZ _; rw [t1]; exact congrArg iZ r3) rfl dX4_value_101
    · skip
      refine z_tin 4 (tgt := 102) mx mb t1 (by decide) dX4_value_1 (by decide) (by decide) rfl (by decide) ?_
      refine z_aload_n mx mb dX4_value_102 rfl 0 rfl ?_
      refine z_get (C := RX4) (T := TX4) (N := 5) mx mb mts (in_X4_value_X4) mo hK zgw 0 wB_0 rfl 0 (by decide) (mts _ (List.mem_of_getElem? (i := 3) rfl)) (fun _ h9 => h9) rfl dX4_value_103 ?_
      refine z_get (C := RX0) (T := TX0) (N := 9) mx mb mts (in_X4_value_X0) mo hK zgw (4 + 15 * 0 + 0) ((wB_get 0 0 (by omega) (by omega)).trans wR_0) rfl 2 (by decide) (mts _ (List.mem_of_getElem? (i := 9) rfl)) (fun _ h9 => h9) rfl dX4_value_106 ?_
      refine z_iconst mx mb dX4_value_109 ?_
      refine z_iald mx mb hK zgw (4 + 15 * 0 + 7) 0 ((wB_get 0 7 (by omega) (by omega)).trans wR_7) rfl (by decide) (by omega) dX4_value_110 ?_
      rw [hQ]
      exact z_retI mx mb mr mlk hK () (by show iZ _ = iZ _; rw [t1]; exact congrArg iZ s0) rfl dX4_value_111
    · skip
      refine z_tin 5 (tgt := 112) mx mb t1 (by decide) dX4_value_1 (by decide) (by decide) rfl (by decide) ?_
      refine z_aload_n mx mb dX4_value_112 rfl 0 rfl ?_
      refine z_get (C := RX4) (T := TX4) (N := 5) mx mb mts (in_X4_value_X4) mo hK zgw 0 wB_0 rfl 0 (by decide) (mts _ (List.mem_of_getElem? (i := 3) rfl)) (fun _ h9 => h9) rfl dX4_value_113 ?_
      refine z_get (C := RX0) (T := TX0) (N := 9) mx mb mts (in_X4_value_X0) mo hK zgw (4 + 15 * 0 + 0) ((wB_get 0 0 (by omega) (by omega)).trans wR_0) rfl 2 (by decide) (mts _ (List.mem_of_getElem? (i := 9) rfl)) (fun _ h9 => h9) rfl dX4_value_116 ?_
      refine z_iconst mx mb dX4_value_119 ?_
      refine z_iald mx mb hK zgw (4 + 15 * 0 + 7) 0 ((wB_get 0 7 (by omega) (by omega)).trans wR_7) rfl (by decide) (by omega) dX4_value_120 ?_
      rw [hQ]
      exact z_retI mx mb mr mlk hK () (by show iZ _ = iZ _; rw [t1]; exact congrArg iZ s1) rfl dX4_value_121
    · skip
      refine z_tin 6 (tgt := 122) mx mb t1 (by decide) dX4_value_1 (by decide) (by decide) rfl (by decide) ?_
      refine z_aload_n mx mb dX4_value_122 rfl 0 rfl ?_
      refine z_get (C := RX4) (T := TX4) (N := 5) mx mb mts (in_X4_value_X4) mo hK zgw 0 wB_0 rfl 0 (by decide) (mts _ (List.mem_of_getElem? (i := 3) rfl)) (fun _ h9 => h9) rfl dX4_value_123 ?_
      refine z_get (C := RX0) (T := TX0) (N := 9) mx mb mts (in_X4_value_X0) mo hK zgw (4 + 15 * 0 + 0) ((wB_get 0 0 (by omega) (by omega)).trans wR_0) rfl 2 (by decide) (mts _ (List.mem_of_getElem? (i := 9) rfl)) (fun _ h9 => h9) rfl dX4_value_126 ?_
      refine z_iconst mx mb dX4_value_129 ?_
      refine z_iald mx mb hK zgw (4 + 15 * 0 + 7) 0 ((wB_get 0 7 (by omega) (by omega)).trans wR_7) rfl (by decide) (by omega) dX4_value_130 ?_
      rw [hQ]
      exact z_retI mx mb mr mlk hK () (by show iZ _ = iZ _; rw [t1]; exact congrArg iZ s2) rfl dX4_value_131
    · skip
      refine z_tin 7 (tgt := 132) mx mb t1 (by decide) dX4_value_1 (by decide) (by decide) rfl (by decide) ?_
      refine z_aload_n mx mb dX4_value_132 rfl 0 rfl ?_
      refine z_get (C := RX4) (T := TX4) (N := 5) mx mb mts (in_X4_value_X4) mo hK zgw 0 wB_0 rfl 0 (by decide) (mts _ (List.mem_of_getElem? (i := 3) rfl)) (fun _ h9 => h9) rfl dX4_value_133 ?_
      refine z_get (C := RX0) (T := TX0) (N := 9) mx mb mts (in_X4_value_X0) mo hK zgw (4 + 15 * 0 + 0) ((wB_get 0 0 (by omega) (by omega)).trans wR_0) rfl 2 (by decide) (mts _ (List.mem_of_getElem? (i := 9) rfl)) (fun _ h9 => h9) rfl dX4_value_136 ?_
      refine z_iconst mx mb dX4_value_139 ?_
      refine z_iald mx mb hK zgw (4 + 15 * 0 + 7) 0 ((wB_get 0 7 (by omega) (by omega)).trans wR_7) rfl (by decide) (by omega) dX4_value_140 ?_
      rw [hQ]
      exact z_retI mx mb mr mlk hK () (by show iZ _ = iZ _; rw [t1]; exact congrArg iZ s3) rfl dX4_value_141
    · skip
      refine z_tin 8 (tgt := 142) mx mb t1 (by decide) dX4_value_1 (by decide) (by decide) rfl (by decide) ?_
      refine z_aload_n mx mb dX4_value_142 rfl 0 rfl ?_
      refine z_get (C := RX4) (T := TX4) (N := 5) mx mb mts (in_X4_value_X4) mo hK zgw 0 wB_0 rfl 0 (by decide) (mts _ (List.mem_of_getElem? (i := 3) rfl)) (fun _ h9 => h9) rfl dX4_value_143 ?_
      refine z_get (C := RX0) (T := TX0) (N := 9) mx mb mts (in_X4_value_X0) mo hK zgw (4 + 15 * 0 + 0) ((wB_get 0 0 (by omega) (by omega)).trans wR_0) rfl 8 (by decide) (mts _ (List.mem_of_getElem? (i := 10) rfl)) (fun _ h9 => h9) rfl dX4_value_146 ?_
      rw [hQ]
      exact z_retI mx mb mr mlk hK () (by show iZ _ = iZ _; rw [t1]; exact congrArg iZ r4) rfl dX4_value_149
    · skip
      refine z_tin 9 (tgt := 150) mx mb t1 (by decide) dX4_value_1 (by decide) (by decide) rfl (by decide) ?_
      refine z_aload_n mx mb dX4_value_150 rfl 0 rfl ?_
      refine z_get (C := RX4) (T := TX4) (N := 5) mx mb mts (in_X4_value_X4) mo hK zgw 0 wB_0 rfl 0 (by decide) (mts _ (List.mem_of_getElem? (i := 3) rfl)) (fun _ h9 => h9) rfl dX4_value_151 ?_
      refine z_callP (As := []) (rest := []) ⟨mx, mb, mml, mo, mts⟩ hK zgw (c_X0_latestDispatch l D y (a 0) (S 0) f  (by assumption) (by assumption) (by assumption)) (cwV 0 mts gX4_value_X0_latestDispatch rfl rfl rfl (by decide +kernel) ⟨Nat.le_of_ble_eq_true rfl, Nat.le_of_ble_eq_true rfl⟩) (wB_in 0 (by omega)) (4 + 15 * 0 + 0) ((wB_get 0 0 (by omega) (by omega)).trans wR_0) rfl rfl rfl rfl (Nat.le_of_ble_eq_true rfl) ⟨Nat.zero_le _, Nat.zero_le _⟩ dX4_value_154 ?_
      rw [hQ]
      exact z_retI mx mb mr mlk hK () (by show iZ _ = iZ _; rw [t1]; rfl) rfl dX4_value_157
    · skip
      refine z_tin 10 (tgt := 158) mx mb t1 (by decide) dX4_value_1 (by decide) (by decide) rfl (by decide) ?_
      refine z_aload_n mx mb dX4_value_158 rfl 0 rfl ?_
      refine z_get (C := RX4) (T := TX4) (N := 5) mx mb mts (in_X4_value_X4) mo hK zgw 0 wB_0 rfl 0 (by decide) (mts _ (List.mem_of_getElem? (i := 3) rfl)) (fun _ h9 => h9) rfl dX4_value_159 ?_
      refine z_callP (As := []) (rest := []) ⟨mx, mb, mml, mo, mts⟩ hK zgw (c_X0_lyingTrains l D y (a 0) (S 0) f  (by assumption) (by assumption)) (cwV 0 mts gX4_value_X0_lyingTrains rfl rfl rfl (by decide +kernel) ⟨Nat.le_of_ble_eq_true rfl, Nat.le_of_ble_eq_true rfl⟩) (wB_in 0 (by omega)) (4 + 15 * 0 + 0) ((wB_get 0 0 (by omega) (by omega)).trans wR_0) rfl rfl rfl rfl (Nat.le_of_ble_eq_true rfl) ⟨Nat.zero_le _, Nat.zero_le _⟩ dX4_value_162 ?_
      rw [hQ]
      exact z_retI mx mb mr mlk hK () (by show iZ _ = iZ _; rw [t1]; rfl) rfl dX4_value_165
    · skip
      refine z_tin 11 (tgt := 166) mx mb t1 (by decide) dX4_value_1 (by decide) (by decide) rfl (by decide) ?_
      refine z_aload_n mx mb dX4_value_166 rfl 0 rfl ?_
      refine z_get (C := RX4) (T := TX4) (N := 5) mx mb mts (in_X4_value_X4) mo hK zgw 0 wB_0 rfl 0 (by decide) (mts _ (List.mem_of_getElem? (i := 3) rfl)) (fun _ h9 => h9) rfl dX4_value_167 ?_
      refine z_get (C := RX0) (T := TX0) (N := 9) mx mb mts (in_X4_value_X0) mo hK zgw (4 + 15 * 0 + 0) ((wB_get 0 0 (by omega) (by omega)).trans wR_0) rfl 0 (by decide) (mts _ (List.mem_of_getElem? (i := 4) rfl)) (fun _ h9 => h9) rfl dX4_value_170 ?_
      refine z_callP (As := []) (rest := []) ⟨mx, mb, mml, mo, mts⟩ hK zgw (c_X1_greatestHeight l D y (a 0) (S 0) f  (by assumption) (by assumption)) (cwV 0 mts gX4_value_X1_greatestHeight rfl rfl rfl (by decide +kernel) ⟨Nat.le_of_ble_eq_true rfl, Nat.le_of_ble_eq_true rfl⟩) (wB_in 0 (by omega)) (4 + 15 * 0 + 1) ((wB_get 0 1 (by omega) (by omega)).trans wR_1) rfl rfl rfl rfl (Nat.le_of_ble_eq_true rfl) ⟨Nat.zero_le _, Nat.zero_le _⟩ dX4_value_173 ?_
      rw [hQ]
      exact z_retI mx mb mr mlk hK () (by show iZ _ = iZ _; rw [t1]; rfl) rfl dX4_value_176
    · skip
      exact absurd t1 (by omega)
  subst hQ
  subst hw0
  exact hstart
