theorem in_X0_putTrain_X0 : ∀ w ∈ wsX00, w ∈ wsX0_putTrain := by decide +kernel
theorem in_X0_putTrain_X1 : ∀ w ∈ wsX10, w ∈ wsX0_putTrain := by decide +kernel
set_option maxRecDepth 100000 in
set_option maxHeartbeats 4000000 in
theorem c_X0_putTrain (l : Launch) (D : va_G) (sz : Nat) (y : Nat → ClassId) (a : Nat → Nat) (R : Nat → Int → Int) (f : Int → Int) (b : Int) (hb9 : 0 ≤ b ∧ b < f 1) (h24 : f 2 < 4) (hR : Rel f R) (hW : Wf f) : Met l yX0_putTrain wsX0_putTrain ({ frames := 2, cells := 0, slots := 0, locals := 43 } : Room) (zPw D vwCl (zT y) (wR y a R) sz [.ref (a 0), .int (iZ b)]) (va_Qv (fun R' : Nat → Int → Int => Rel (addT f b) R') (zB D vwCl (zT y) (wR y a R) sz (fun R' : Nat → Int → Int => wR y a R')) (va_A (wR y a R) sz)) 0 0 (va_A (wR y a R) sz) := by
  refine z_headW (cc := cX0_putTrain) (maxL := 2) (ret := none) [(0, .ref (a 0)), (1, .int (iZ b))] rfl (Nat.le_of_ble_eq_true rfl) (by decide +kernel) rfl ?_
  intro pp ee ss mm below meth cd mx mb mr mml mo mts mlk hK hname hsz hA
  generalize ([.ref (a 0), .int (iZ b)] : List Value).toArray = args at mts ⊢
  obtain ⟨wst, hw0⟩ : ∃ wst, wst = wR y a R := ⟨_, rfl⟩
  have hA : ∀ q, ss.heap.size ≤ q → va_A wst sz q := by rw [hw0]; exact hA
  obtain ⟨Q, hQ⟩ : ∃ Q, Q = MQ below (va_Qv (fun R' : Nat → Int → Int => Rel (addT f b) R') (zB D vwCl (zT y) wst sz (fun R' : Nat → Int → Int => wR y a R')) (va_A wst sz)) args ss 0 0 (va_A wst sz) := ⟨_, rfl⟩
  have hstart : Gz pp l ee ({ frames := 2, cells := 0, slots := 0, locals := 43 } : Room) ss mm args below meth cd 2 0 0 Q (Zw D vwCl (va_A wst sz) ss (wR y a R)) 0 [(0, .ref (a 0)), (1, .int (iZ b))] [] := by
    obtain ⟨⟨r0, r1, r2, r3, r4⟩, rc, rb, ⟨s0, s1, s2, s3⟩, rt, rl⟩ := id hR
    obtain ⟨w0, w1, w2, w3, w4, w5, w6⟩ := id hW
    obtain ⟨n, hn⟩ : ∃ n : Nat, f 2 = (n : Int) := ⟨(f 2).toNat, by omega⟩
    refine z_aload_n mx mb dX0_putTrain_0 rfl 0 rfl ?_
    refine z_get (C := RX0) (T := TX0) (N := 9) mx mb mts (in_X0_putTrain_X0) mo hK zgw 0 wR_0 rfl 6 (by decide) (mts _ (List.mem_of_getElem? (i := 1) rfl)) (fun _ h9 => h9) rfl dX0_putTrain_1 ?_
    refine z_iconst mx mb dX0_putTrain_4 ?_
    refine z_icmp_ge (tgt := 45) mx mb (by omega) (by omega) dX0_putTrain_5 (by decide) (fun c5 => ?_) (fun c5 => ?_)
    · skip
      exact absurd c5 (by omega)
    · skip
      refine z_aload_n mx mb dX0_putTrain_8 rfl 0 rfl ?_
      refine z_get (C := RX0) (T := TX0) (N := 9) mx mb mts (in_X0_putTrain_X0) mo hK zgw 0 wR_0 rfl 1 (by decide) (mts _ (List.mem_of_getElem? (i := 2) rfl)) (fun _ h9 => h9) rfl dX0_putTrain_9 ?_
      refine z_aload_n mx mb dX0_putTrain_12 rfl 0 rfl ?_
      refine z_get (C := RX0) (T := TX0) (N := 9) mx mb mts (in_X0_putTrain_X0) mo hK zgw 0 wR_0 rfl 6 (by decide) (mts _ (List.mem_of_getElem? (i := 1) rfl)) (fun _ h9 => h9) rfl dX0_putTrain_13 ?_
      refine z_top (show R 0 0 = (n : Int) from by rw [r2]; exact hn) ?_
      refine z_aald (i := n) mx mb hK zgw 6 1 wR_6 rfl (by decide) (by omega) dX0_putTrain_16 ?_
      refine z_aload_n mx mb dX0_putTrain_17 rfl 0 rfl ?_
      refine z_get (C := RX0) (T := TX0) (N := 9) mx mb mts (in_X0_putTrain_X0) mo hK zgw 0 wR_0 rfl 0 (by decide) (mts _ (List.mem_of_getElem? (i := 3) rfl)) (fun _ h9 => h9) rfl dX0_putTrain_18 ?_
      refine z_get (C := RX1) (T := TX1) (N := 6) mx mb mts (in_X0_putTrain_X1) mo hK zgw 1 wR_1 rfl 3 (by decide) (mts _ (List.mem_of_getElem? (i := 4) rfl)) (fun _ h9 => h9) rfl dX0_putTrain_21 ?_
      refine z_iload_n mx mb dX0_putTrain_24 rfl 1 rfl ?_
      refine z_iald mx mb hK zgw 5 0 wR_5 rfl (by decide) (by omega) dX0_putTrain_25 ?_
      refine z_top (show (R 5) b = brakeOf f b from by exact (rb b hb9.1 hb9.2).1) ?_
      refine z_aload_n mx mb dX0_putTrain_26 rfl 0 rfl ?_
      refine z_get (C := RX0) (T := TX0) (N := 9) mx mb mts (in_X0_putTrain_X0) mo hK zgw 0 wR_0 rfl 2 (by decide) (mts _ (List.mem_of_getElem? (i := 5) rfl)) (fun _ h9 => h9) rfl dX0_putTrain_27 ?_
      refine z_iconst mx mb dX0_putTrain_30 ?_
      refine z_iald mx mb hK zgw 7 0 wR_7 rfl (by decide) (by omega) dX0_putTrain_31 ?_
      refine z_callT (t := n) (As := [.int (iZ (brakeOf f b)), .int (iZ ((R 7) 3))]) (rest := []) (by omega) ⟨mx, mb, mml, mo, mts⟩ hK hA (fun sz => c_X3_begin l D sz y (a (8 + n)) (R (8 + n)) (brakeOf f b) ((R 7) 3) ) (cwV 2 mts gX0_putTrain_X3_begin rfl rfl rfl (by decide +kernel) ⟨Nat.le_of_ble_eq_true rfl, Nat.le_of_ble_eq_true rfl⟩) rfl rfl (Nat.le_of_ble_eq_true rfl) ⟨Nat.zero_le _, Nat.zero_le _⟩ dX0_putTrain_32 ?_
      refine z_aload_n mx mb dX0_putTrain_35 rfl 0 rfl ?_
      refine z_dup mx mb dX0_putTrain_36 rfl ?_
      refine z_get (C := RX0) (T := TX0) (N := 9) mx mb mts (in_X0_putTrain_X0) mo hK zgw 0 wR_0 rfl 6 (by decide) (mts _ (List.mem_of_getElem? (i := 1) rfl)) (fun _ h9 => h9) rfl dX0_putTrain_37 ?_
      refine z_top (show (uc R (8 + n) (zu (zu (zu (zu (zu (zu (zu (zu (R (8 + n)) 0 (brakeOf f b)) 1 0) 2 0) 4 1) 5 0) 3 ((R 7) 3)) 6 0) 7 0)) 0 0 = f 2 from by rw [uc_n (by omega), r2]) ?_
      refine z_iconst mx mb dX0_putTrain_40 ?_
      refine z_iadd mx mb dX0_putTrain_41 ?_
      refine z_put (ty := .int) (C := RX0) (T := TX0) (N := 9) mx mb mts (in_X0_putTrain_X0) tyX0_ok nmX0 mo hK 0 wR_0 rfl 6 (by decide) (mts _ (List.mem_of_getElem? (i := 1) rfl)) (fun _ h9 => h9) rfl (by decide +kernel) rfl rfl (Nat.le_of_ble_eq_true rfl) dX0_putTrain_42 (wR y a (uc (uc R (8 + n) (zu (zu (zu (zu (zu (zu (zu (zu (R (8 + n)) 0 (brakeOf f b)) 1 0) 2 0) 4 1) 5 0) 3 ((R 7) 3)) 6 0) 7 0)) 0 (zu ((uc R (8 + n) (zu (zu (zu (zu (zu (zu (zu (zu (R (8 + n)) 0 (brakeOf f b)) 1 0) 2 0) 4 1) 5 0) 3 ((R 7) 3)) 6 0) 7 0)) 0) 0 ((f 2) + 1)))) wR_s0_0 ?_
      rw [hQ]
      exact z_retV mx mb mr mlk hK (uc (uc R (8 + n) (zu (zu (zu (zu (zu (zu (zu (zu (R (8 + n)) 0 (brakeOf f b)) 1 0) 2 0) 4 1) 5 0) 3 ((R 7) 3)) 6 0) 7 0)) 0 (zu ((uc R (8 + n) (zu (zu (zu (zu (zu (zu (zu (zu (R (8 + n)) 0 (brakeOf f b)) 1 0) 2 0) 4 1) 5 0) 3 ((R 7) 3)) 6 0) 7 0)) 0) 0 ((f 2) + 1))) (by show Rel _ _; exact rel_addT hR hW hn (by omega) s3) rfl dX0_putTrain_45
  subst hQ
  subst hw0
  exact hstart

theorem in_X2_add_X2 : ∀ w ∈ wsX20, w ∈ wsX2_add := by decide +kernel
set_option maxRecDepth 100000 in
set_option maxHeartbeats 4000000 in
theorem c_X2_add (l : Launch) (D : va_G) (sz : Nat) (y : Nat → ClassId) (b : Nat → Nat) (x : Int → Int) (ln : Int) (v : Int) (hl : 0 ≤ ln ∧ ln < 90) : Met l yX2_add wsX2_add ({ frames := 0, cells := 0, slots := 0, locals := 0 } : Room) (zPw D vwCl (zT y) (wX y b x ln) sz [.ref (b 0), .int (iZ v)]) (va_Qv (fun _ : Unit => True) (zB D vwCl (zT y) (wX y b x ln) sz (fun _ => wX y b (zu x ln v) (ln + 1))) (va_A (wX y b x ln) sz)) 0 0 (va_A (wX y b x ln) sz) := by
  refine z_headW (cc := cX2_add) (maxL := 2) (ret := none) [(0, .ref (b 0)), (1, .int (iZ v))] rfl (Nat.le_of_ble_eq_true rfl) (by decide +kernel) rfl ?_
  intro pp ee ss mm below meth cd mx mb mr mml mo mts mlk hK hname hsz hA
  generalize ([.ref (b 0), .int (iZ v)] : List Value).toArray = args at mts ⊢
  obtain ⟨wst, hw0⟩ : ∃ wst, wst = wX y b x ln := ⟨_, rfl⟩
  have hA : ∀ q, ss.heap.size ≤ q → va_A wst sz q := by rw [hw0]; exact hA
  obtain ⟨Q, hQ⟩ : ∃ Q, Q = MQ below (va_Qv (fun _ : Unit => True) (zB D vwCl (zT y) wst sz (fun _ => wX y b (zu x ln v) (ln + 1))) (va_A wst sz)) args ss 0 0 (va_A wst sz) := ⟨_, rfl⟩
  have hstart : Gz pp l ee ({ frames := 0, cells := 0, slots := 0, locals := 0 } : Room) ss mm args below meth cd 2 0 0 Q (Zw D vwCl (va_A wst sz) ss (wX y b x ln)) 0 [(0, .ref (b 0)), (1, .int (iZ v))] [] := by
    refine z_aload_n mx mb dX2_add_0 rfl 0 rfl ?_
    refine z_get (C := RX2) (T := TX2) (N := 2) mx mb mts (in_X2_add_X2) mo hK zgw 0 wX_0 rfl 1 (by decide) (mts _ (List.mem_of_getElem? (i := 1) rfl)) (fun _ h9 => h9) rfl dX2_add_1 ?_
    refine z_bipush mx mb dX2_add_4 (by decide +kernel) ?_
    refine z_icmp_ge (tgt := 29) mx mb (by omega) (by omega) dX2_add_6 (by decide) (fun c6 => ?_) (fun c6 => ?_)
    · skip
      exact absurd c6 (by omega)
    · skip
      refine z_aload_n mx mb dX2_add_9 rfl 0 rfl ?_
      refine z_get (C := RX2) (T := TX2) (N := 2) mx mb mts (in_X2_add_X2) mo hK zgw 0 wX_0 rfl 0 (by decide) (mts _ (List.mem_of_getElem? (i := 2) rfl)) (fun _ h9 => h9) rfl dX2_add_10 ?_
      refine z_aload_n mx mb dX2_add_13 rfl 0 rfl ?_
      refine z_get (C := RX2) (T := TX2) (N := 2) mx mb mts (in_X2_add_X2) mo hK zgw 0 wX_0 rfl 1 (by decide) (mts _ (List.mem_of_getElem? (i := 1) rfl)) (fun _ h9 => h9) rfl dX2_add_14 ?_
      refine z_iload_n mx mb dX2_add_17 rfl 1 rfl ?_
      refine z_iast mx mb hK 1 0 wX_1 rfl (by decide) (by omega) dX2_add_18 (wX y b (zu x ln v) ln) wX_s1 ?_
      refine z_aload_n mx mb dX2_add_19 rfl 0 rfl ?_
      refine z_dup mx mb dX2_add_20 rfl ?_
      refine z_get (C := RX2) (T := TX2) (N := 2) mx mb mts (in_X2_add_X2) mo hK zgw 0 wX_0 rfl 1 (by decide) (mts _ (List.mem_of_getElem? (i := 1) rfl)) (fun _ h9 => h9) rfl dX2_add_21 ?_
      refine z_iconst mx mb dX2_add_24 ?_
      refine z_iadd mx mb dX2_add_25 ?_
      refine z_put (ty := .int) (C := RX2) (T := TX2) (N := 2) mx mb mts (in_X2_add_X2) tyX2_ok nmX2 mo hK 0 wX_0 rfl 1 (by decide) (mts _ (List.mem_of_getElem? (i := 1) rfl)) (fun _ h9 => h9) rfl (by decide +kernel) rfl rfl (Nat.le_of_ble_eq_true rfl) dX2_add_26 (wX y b (zu x ln v) (ln + 1)) wX_s0 ?_
      rw [hQ]
      exact z_retV mx mb mr mlk hK () (by trivial) rfl dX2_add_29
  subst hQ
  subst hw0
  exact hstart

theorem in_X2_clear_X2 : ∀ w ∈ wsX20, w ∈ wsX2_clear := by decide +kernel
set_option maxRecDepth 100000 in
set_option maxHeartbeats 4000000 in
theorem c_X2_clear (l : Launch) (D : va_G) (sz : Nat) (y : Nat → ClassId) (b : Nat → Nat) (x : Int → Int) (ln : Int)  : Met l yX2_clear wsX2_clear ({ frames := 0, cells := 0, slots := 0, locals := 0 } : Room) (zPw D vwCl (zT y) (wX y b x ln) sz [.ref (b 0)]) (va_Qv (fun _ : Unit => True) (zB D vwCl (zT y) (wX y b x ln) sz (fun _ => wX y b x 0)) (va_A (wX y b x ln) sz)) 0 0 (va_A (wX y b x ln) sz) := by
  refine z_headW (cc := cX2_clear) (maxL := 1) (ret := none) [(0, .ref (b 0))] rfl (Nat.le_of_ble_eq_true rfl) (by decide +kernel) rfl ?_
  intro pp ee ss mm below meth cd mx mb mr mml mo mts mlk hK hname hsz hA
  generalize ([.ref (b 0)] : List Value).toArray = args at mts ⊢
  obtain ⟨wst, hw0⟩ : ∃ wst, wst = wX y b x ln := ⟨_, rfl⟩
  have hA : ∀ q, ss.heap.size ≤ q → va_A wst sz q := by rw [hw0]; exact hA
  obtain ⟨Q, hQ⟩ : ∃ Q, Q = MQ below (va_Qv (fun _ : Unit => True) (zB D vwCl (zT y) wst sz (fun _ => wX y b x 0)) (va_A wst sz)) args ss 0 0 (va_A wst sz) := ⟨_, rfl⟩
  have hstart : Gz pp l ee ({ frames := 0, cells := 0, slots := 0, locals := 0 } : Room) ss mm args below meth cd 1 0 0 Q (Zw D vwCl (va_A wst sz) ss (wX y b x ln)) 0 [(0, .ref (b 0))] [] := by
    refine z_aload_n mx mb dX2_clear_0 rfl 0 rfl ?_
    refine z_iconst mx mb dX2_clear_1 ?_
    refine z_put (ty := .int) (C := RX2) (T := TX2) (N := 2) mx mb mts (in_X2_clear_X2) tyX2_ok nmX2 mo hK 0 wX_0 rfl 1 (by decide) (mts _ (List.mem_of_getElem? (i := 1) rfl)) (fun _ h9 => h9) rfl (by decide +kernel) rfl rfl (Nat.le_of_ble_eq_true rfl) dX2_clear_2 (wX y b x 0) wX_s0 ?_
    rw [hQ]
    exact z_retV mx mb mr mlk hK () (by trivial) rfl dX2_clear_5
  subst hQ
  subst hw0
  exact hstart

theorem in_X2_heightFits_X2 : ∀ w ∈ wsX20, w ∈ wsX2_heightFits := by decide +kernel
set_option maxRecDepth 100000 in
set_option maxHeartbeats 4000000 in
theorem c_X2_heightFits (l : Launch) (D : va_G) (y : Nat → ClassId) (b : Nat → Nat) (x : Int → Int) (ln : Int) (i : Int) (hi : 0 ≤ i ∧ i < 90) (htx : ∀ k : Int, 0 ≤ k → k < 90 → 0 ≤ x k ∧ x k ≤ 127) : Met l yX2_heightFits wsX2_heightFits ({ frames := 0, cells := 0, slots := 0, locals := 0 } : Room) (zPp D vwCl (zT y) (wX y b x ln) [.ref (b 0), .int (iZ i)]) (vp_Si (fun r => r = iZ (b2z (i / 2 < 30 ∧ 48 ≤ x i ∧ x i ≤ 57)))) 0 0 (fun _ => False) := by
  refine z_headP (cc := cX2_heightFits) (maxL := 2) (ret := (some .boolean)) [(0, .ref (b 0)), (1, .int (iZ i))] rfl (Nat.le_of_ble_eq_true rfl) (by decide +kernel) rfl ?_
  intro pp ee ss mm below meth cd mx mb mr mml mo mts mlk hK hP
  generalize ([.ref (b 0), .int (iZ i)] : List Value).toArray = args at mts ⊢
  obtain ⟨Q, hQ⟩ : ∃ Q, Q = MQ below (vp_Si (fun r => r = iZ (b2z (i / 2 < 30 ∧ 48 ≤ x i ∧ x i ≤ 57)))) args ss 0 0 (fun _ => False) := ⟨_, rfl⟩
  rw [← hQ]
  have k1 := htx i hi.1 hi.2
  refine z_iload_n mx mb dX2_heightFits_0 rfl 1 rfl ?_
  refine z_iconst mx mb dX2_heightFits_1 ?_
  refine z_idiv mx mb (by omega) (by omega) dX2_heightFits_2 ?_
  refine z_bipush mx mb dX2_heightFits_3 (by decide +kernel) ?_
  refine z_icmp_ge (tgt := 34) mx mb (by omega) (by omega) dX2_heightFits_5 (by decide) (fun c5 => ?_) (fun c5 => ?_)
  · skip
    refine z_iconst mx mb dX2_heightFits_34 ?_
    rw [hQ]
    exact z_retB mx mb mr mlk (by first | exact (b2z_t (by omega)).symm | exact (b2z_f (by omega)).symm) dX2_heightFits_35
  · skip
    refine z_aload_n mx mb dX2_heightFits_8 rfl 0 rfl ?_
    refine z_get (C := RX2) (T := TX2) (N := 2) mx mb mts (in_X2_heightFits_X2) mo hK (zgp hP) 0 wX_0 rfl 0 (by decide) (mts _ (List.mem_of_getElem? (i := 1) rfl)) (fun _ h9 => h9) rfl dX2_heightFits_9 ?_
    refine z_iload_n mx mb dX2_heightFits_12 rfl 1 rfl ?_
    refine z_iald mx mb hK (zgp hP) 1 0 wX_1 rfl (by decide) (by omega) dX2_heightFits_13 ?_
    refine z_bipush mx mb dX2_heightFits_14 (by decide +kernel) ?_
    refine z_icmp_lt (tgt := 34) mx mb (by omega) (by omega) dX2_heightFits_16 (by decide) (fun c16 => ?_) (fun c16 => ?_)
    · skip
      refine z_iconst mx mb dX2_heightFits_34 ?_
      rw [hQ]
      exact z_retB mx mb mr mlk (by first | exact (b2z_t (by omega)).symm | exact (b2z_f (by omega)).symm) dX2_heightFits_35
    · skip
      refine z_aload_n mx mb dX2_heightFits_19 rfl 0 rfl ?_
      refine z_get (C := RX2) (T := TX2) (N := 2) mx mb mts (in_X2_heightFits_X2) mo hK (zgp hP) 0 wX_0 rfl 0 (by decide) (mts _ (List.mem_of_getElem? (i := 1) rfl)) (fun _ h9 => h9) rfl dX2_heightFits_20 ?_
      refine z_iload_n mx mb dX2_heightFits_23 rfl 1 rfl ?_
      refine z_iald mx mb hK (zgp hP) 1 0 wX_1 rfl (by decide) (by omega) dX2_heightFits_24 ?_
      refine z_bipush mx mb dX2_heightFits_25 (by decide +kernel) ?_
      refine z_icmp_gt (tgt := 34) mx mb (by omega) (by omega) dX2_heightFits_27 (by decide) (fun c27 => ?_) (fun c27 => ?_)
      · skip
        refine z_iconst mx mb dX2_heightFits_34 ?_
        rw [hQ]
        exact z_retB mx mb mr mlk (by first | exact (b2z_t (by omega)).symm | exact (b2z_f (by omega)).symm) dX2_heightFits_35
      · skip
        refine z_iconst mx mb dX2_heightFits_30 ?_
        refine z_goto (tgt := 35) mx mb dX2_heightFits_31 (by decide) ?_
        rw [hQ]
        exact z_retB mx mb mr mlk (by first | exact (b2z_t (by omega)).symm | exact (b2z_f (by omega)).symm) dX2_heightFits_35

theorem in_X2_kindFits_X2 : ∀ w ∈ wsX20, w ∈ wsX2_kindFits := by decide +kernel
set_option maxRecDepth 100000 in
set_option maxHeartbeats 4000000 in
theorem c_X2_kindFits (l : Launch) (D : va_G) (y : Nat → ClassId) (b : Nat → Nat) (x : Int → Int) (ln : Int) (i br : Int) (hi : 0 ≤ i ∧ i < 90) (hbr : 0 ≤ br ∧ br ≤ 90) (htx : ∀ k : Int, 0 ≤ k → k < 90 → 0 ≤ x k ∧ x k ≤ 127) : Met l yX2_kindFits wsX2_kindFits ({ frames := 0, cells := 0, slots := 0, locals := 0 } : Room) (zPp D vwCl (zT y) (wX y b x ln) [.ref (b 0), .int (iZ i), .int (iZ br)]) (vp_Si (fun r => r = iZ (b2z (x i = 108 ∨ x i = 46 ∨ (x i = 98 ∧ br < 8))))) 0 0 (fun _ => False) := by
  refine z_headP (cc := cX2_kindFits) (maxL := 4) (ret := (some .boolean)) [(0, .ref (b 0)), (1, .int (iZ i)), (2, .int (iZ br))] rfl (Nat.le_of_ble_eq_true rfl) (by decide +kernel) rfl ?_
  intro pp ee ss mm below meth cd mx mb mr mml mo mts mlk hK hP
  generalize ([.ref (b 0), .int (iZ i), .int (iZ br)] : List Value).toArray = args at mts ⊢
  obtain ⟨Q, hQ⟩ : ∃ Q, Q = MQ below (vp_Si (fun r => r = iZ (b2z (x i = 108 ∨ x i = 46 ∨ (x i = 98 ∧ br < 8))))) args ss 0 0 (fun _ => False) := ⟨_, rfl⟩
  rw [← hQ]
  have k1 := htx i hi.1 hi.2
  refine z_aload_n mx mb dX2_kindFits_0 rfl 0 rfl ?_
  refine z_get (C := RX2) (T := TX2) (N := 2) mx mb mts (in_X2_kindFits_X2) mo hK (zgp hP) 0 wX_0 rfl 0 (by decide) (mts _ (List.mem_of_getElem? (i := 1) rfl)) (fun _ h9 => h9) rfl dX2_kindFits_1 ?_
  refine z_iload_n mx mb dX2_kindFits_4 rfl 1 rfl ?_
  refine z_iald mx mb hK (zgp hP) 1 0 wX_1 rfl (by decide) (by omega) dX2_kindFits_5 ?_
  refine z_istore_n mx mb dX2_kindFits_6 rfl (by decide) [(3, .int (iZ (x i))), (0, .ref (b 0)), (1, .int (iZ i)), (2, .int (iZ br))] rfl ?_
  refine z_iload_n mx mb dX2_kindFits_7 rfl 0 rfl ?_
  refine z_bipush mx mb dX2_kindFits_8 (by decide +kernel) ?_
  refine z_icmp_eq (tgt := 31) mx mb (by omega) (by omega) dX2_kindFits_10 (by decide) (fun c10 => ?_) (fun c10 => ?_)
  · skip
    refine z_iconst mx mb dX2_kindFits_31 ?_
    refine z_goto (tgt := 36) mx mb dX2_kindFits_32 (by decide) ?_
    rw [hQ]
    exact z_retB mx mb mr mlk (by first | exact (b2z_t (by omega)).symm | exact (b2z_f (by omega)).symm) dX2_kindFits_36
  · skip
    refine z_iload_n mx mb dX2_kindFits_13 rfl 0 rfl ?_
    refine z_bipush mx mb dX2_kindFits_14 (by decide +kernel) ?_
    refine z_icmp_eq (tgt := 31) mx mb (by omega) (by omega) dX2_kindFits_16 (by decide) (fun c16 => ?_) (fun c16 => ?_)
    · skip
      refine z_iconst mx mb dX2_kindFits_31 ?_
      refine z_goto (tgt := 36) mx mb dX2_kindFits_32 (by decide) ?_
      rw [hQ]
      exact z_retB mx mb mr mlk (by first | exact (b2z_t (by omega)).symm | exact (b2z_f (by omega)).symm) dX2_kindFits_36
    · skip
      refine z_iload_n mx mb dX2_kindFits_19 rfl 0 rfl ?_
      refine z_bipush mx mb dX2_kindFits_20 (by decide +kernel) ?_
      refine z_icmp_ne (tgt := 35) mx mb (by omega) (by omega) dX2_kindFits_22 (by decide) (fun c22 => ?_) (fun c22 => ?_)
      · skip
        refine z_iconst mx mb dX2_kindFits_35 ?_
        rw [hQ]
        exact z_retB mx mb mr mlk (by first | exact (b2z_t (by omega)).symm | exact (b2z_f (by omega)).symm) dX2_kindFits_36
      · skip
        refine z_iload_n mx mb dX2_kindFits_25 rfl 3 rfl ?_
        refine z_bipush mx mb dX2_kindFits_26 (by decide +kernel) ?_
        refine z_icmp_ge (tgt := 35) mx mb (by omega) (by omega) dX2_kindFits_28 (by decide) (fun c28 => ?_) (fun c28 => ?_)
        · skip
          refine z_iconst mx mb dX2_kindFits_35 ?_
          rw [hQ]
          exact z_retB mx mb mr mlk (by first | exact (b2z_t (by omega)).symm | exact (b2z_f (by omega)).symm) dX2_kindFits_36
        · skip
          refine z_iconst mx mb dX2_kindFits_31 ?_
          refine z_goto (tgt := 36) mx mb dX2_kindFits_32 (by decide) ?_
          rw [hQ]
          exact z_retB mx mb mr mlk (by first | exact (b2z_t (by omega)).symm | exact (b2z_f (by omega)).symm) dX2_kindFits_36

theorem in_X2_errorPosition_X2 : ∀ w ∈ wsX20, w ∈ wsX2_errorPosition := by decide +kernel
set_option maxRecDepth 100000 in
set_option maxHeartbeats 4000000 in
theorem c_X2_errorPosition (l : Launch) (D : va_G) (y : Nat → ClassId) (b : Nat → Nat) (x : Int → Int) (ln : Int) (hl : 0 ≤ ln ∧ ln ≤ 90) (htx : ∀ k : Int, 0 ≤ k → k < 90 → 0 ≤ x k ∧ x k ≤ 127) : Met l yX2_errorPosition wsX2_errorPosition ({ frames := 1, cells := 0, slots := 0, locals := 23 } : Room) (zPp D vwCl (zT y) (wX y b x ln) [.ref (b 0)]) (vp_Si (fun r => r = iZ (fault x ln))) 0 0 (fun _ => False) := by
  refine z_headP (cc := cX2_errorPosition) (maxL := 4) (ret := (some .int)) [(0, .ref (b 0))] rfl (Nat.le_of_ble_eq_true rfl) (by decide +kernel) rfl ?_
  intro pp ee ss mm below meth cd mx mb mr mml mo mts mlk hK hP
  generalize ([.ref (b 0)] : List Value).toArray = args at mts ⊢
  obtain ⟨Q, hQ⟩ : ∃ Q, Q = MQ below (vp_Si (fun r => r = iZ (fault x ln))) args ss 0 0 (fun _ => False) := ⟨_, rfl⟩
  rw [← hQ]
  refine z_iconst mx mb dX2_errorPosition_0 ?_
  refine z_istore_n mx mb dX2_errorPosition_1 rfl (by decide) [(1, .int (iZ 0)), (0, .ref (b 0))] rfl ?_
  refine z_iconst mx mb dX2_errorPosition_2 ?_
  refine z_istore_n mx mb dX2_errorPosition_3 rfl (by decide) [(2, .int (iZ 0)), (1, .int (iZ 0)), (0, .ref (b 0))] rfl ?_
  have lp4 : ∀ (nn : Nat) (i : Nat) (x1 x2 : Int), ln.toNat - i < nn → ((i : Int) ≤ ln) → (x1 = brs x i) → (x2 = (i : Int)) → (fst' x i = -1) → (brs x i ≤ 8 ∧ (i : Int) ≤ 60) → Gz pp l ee ({ frames := 1, cells := 0, slots := 0, locals := 23 } : Room) ss mm args below meth cd 4 0 0 Q (Zp ss) 4 [(0, .ref (b 0)), (1, .int (iZ x1)), (2, .int (iZ x2))] [] := by
    intro nn
    induction nn with
    | zero => exact fun i x1 x2 hm => absurd hm (Nat.not_lt_zero _)
    | succ nn ih =>
      intro i x1 x2 hm hi e1 e3 e4 h9
      have r2 := brs_rng x i
      refine z_iload_n mx mb dX2_errorPosition_4 rfl 2 rfl ?_
      refine z_aload_n mx mb dX2_errorPosition_5 rfl 0 rfl ?_
      refine z_get (C := RX2) (T := TX2) (N := 2) mx mb mts (in_X2_errorPosition_X2) mo hK (zgp hP) 0 wX_0 rfl 1 (by decide) (mts _ (List.mem_of_getElem? (i := 1) rfl)) (fun _ h9 => h9) rfl dX2_errorPosition_6 ?_
      refine z_icmp_ge (tgt := 59) mx mb (by omega) (by omega) dX2_errorPosition_9 (by decide) (fun c9 => ?_) (fun c9 => ?_)
      · skip
        have hi2 : i = ln.toNat := by omega
        refine z_aload_n mx mb dX2_errorPosition_59 rfl 0 rfl ?_
        refine z_get (C := RX2) (T := TX2) (N := 2) mx mb mts (in_X2_errorPosition_X2) mo hK (zgp hP) 0 wX_0 rfl 1 (by decide) (mts _ (List.mem_of_getElem? (i := 1) rfl)) (fun _ h9 => h9) rfl dX2_errorPosition_60 ?_
        refine z_iconst mx mb dX2_errorPosition_63 ?_
        refine z_irem mx mb (by omega) (by omega) dX2_errorPosition_64 ?_
        refine z_if_ne (tgt := 87) mx mb (by omega) dX2_errorPosition_65 (by decide) (fun c65 => ?_) (fun c65 => ?_)
        · skip
          refine z_iconst mx mb dX2_errorPosition_87 ?_
          refine z_istore_n mx mb dX2_errorPosition_88 rfl (by decide) [(2, .int (iZ 0)), (0, .ref (b 0)), (1, .int (iZ x1))] rfl ?_
          refine z_iload_n mx mb dX2_errorPosition_89 rfl 0 rfl ?_
          refine z_if_eq (tgt := 97) mx mb (by omega) dX2_errorPosition_90 (by decide) (fun c90 => ?_) (fun c90 => ?_)
          · skip
            refine z_aload_n mx mb dX2_errorPosition_97 rfl 1 rfl ?_
            refine z_get (C := RX2) (T := TX2) (N := 2) mx mb mts (in_X2_errorPosition_X2) mo hK (zgp hP) 0 wX_0 rfl 1 (by decide) (mts _ (List.mem_of_getElem? (i := 1) rfl)) (fun _ h9 => h9) rfl dX2_errorPosition_98 ?_
            rw [hQ]
            exact z_retP mx mb mr mlk (by unfold fault; rw [← hi2, if_pos e4]; first | (rw [if_pos (by omega)]; done) | (rw [if_neg (by omega)]; done)) dX2_errorPosition_101
          · skip
            exact absurd c90 (by omega)
        · skip
          refine z_aload_n mx mb dX2_errorPosition_68 rfl 0 rfl ?_
          refine z_get (C := RX2) (T := TX2) (N := 2) mx mb mts (in_X2_errorPosition_X2) mo hK (zgp hP) 0 wX_0 rfl 1 (by decide) (mts _ (List.mem_of_getElem? (i := 1) rfl)) (fun _ h9 => h9) rfl dX2_errorPosition_69 ?_
          refine z_iconst mx mb dX2_errorPosition_72 ?_
          refine z_idiv mx mb (by omega) (by omega) dX2_errorPosition_73 ?_
          refine z_iconst mx mb dX2_errorPosition_74 ?_
          refine z_icmp_lt (tgt := 87) mx mb (by omega) (by omega) dX2_errorPosition_75 (by decide) (fun c75 => ?_) (fun c75 => ?_)
          · skip
            refine z_iconst mx mb dX2_errorPosition_87 ?_
            refine z_istore_n mx mb dX2_errorPosition_88 rfl (by decide) [(2, .int (iZ 0)), (0, .ref (b 0)), (1, .int (iZ x1))] rfl ?_
            refine z_iload_n mx mb dX2_errorPosition_89 rfl 0 rfl ?_
            refine z_if_eq (tgt := 97) mx mb (by omega) dX2_errorPosition_90 (by decide) (fun c90 => ?_) (fun c90 => ?_)
            · skip
              refine z_aload_n mx mb dX2_errorPosition_97 rfl 1 rfl ?_
              refine z_get (C := RX2) (T := TX2) (N := 2) mx mb mts (in_X2_errorPosition_X2) mo hK (zgp hP) 0 wX_0 rfl 1 (by decide) (mts _ (List.mem_of_getElem? (i := 1) rfl)) (fun _ h9 => h9) rfl dX2_errorPosition_98 ?_
              rw [hQ]
              exact z_retP mx mb mr mlk (by unfold fault; rw [← hi2, if_pos e4]; first | (rw [if_pos (by omega)]; done) | (rw [if_neg (by omega)]; done)) dX2_errorPosition_101
            · skip
              exact absurd c90 (by omega)
          · skip
            refine z_iload_n mx mb dX2_errorPosition_78 rfl 1 rfl ?_
            refine z_iconst mx mb dX2_errorPosition_79 ?_
            refine z_icmp_lt (tgt := 87) mx mb (by omega) (by omega) dX2_errorPosition_80 (by decide) (fun c80 => ?_) (fun c80 => ?_)
            · skip
              refine z_iconst mx mb dX2_errorPosition_87 ?_
              refine z_istore_n mx mb dX2_errorPosition_88 rfl (by decide) [(2, .int (iZ 0)), (0, .ref (b 0)), (1, .int (iZ x1))] rfl ?_
              refine z_iload_n mx mb dX2_errorPosition_89 rfl 0 rfl ?_
              refine z_if_eq (tgt := 97) mx mb (by omega) dX2_errorPosition_90 (by decide) (fun c90 => ?_) (fun c90 => ?_)
              · skip
                refine z_aload_n mx mb dX2_errorPosition_97 rfl 1 rfl ?_
                refine z_get (C := RX2) (T := TX2) (N := 2) mx mb mts (in_X2_errorPosition_X2) mo hK (zgp hP) 0 wX_0 rfl 1 (by decide) (mts _ (List.mem_of_getElem? (i := 1) rfl)) (fun _ h9 => h9) rfl dX2_errorPosition_98 ?_
                rw [hQ]
                exact z_retP mx mb mr mlk (by unfold fault; rw [← hi2, if_pos e4]; first | (rw [if_pos (by omega)]; done) | (rw [if_neg (by omega)]; done)) dX2_errorPosition_101
              · skip
                exact absurd c90 (by omega)
            · skip
              refine z_iconst mx mb dX2_errorPosition_83 ?_
              refine z_goto (tgt := 88) mx mb dX2_errorPosition_84 (by decide) ?_
              refine z_istore_n mx mb dX2_errorPosition_88 rfl (by decide) [(2, .int (iZ 1)), (0, .ref (b 0)), (1, .int (iZ x1))] rfl ?_
              refine z_iload_n mx mb dX2_errorPosition_89 rfl 0 rfl ?_
              refine z_if_eq (tgt := 97) mx mb (by omega) dX2_errorPosition_90 (by decide) (fun c90 => ?_) (fun c90 => ?_)
              · skip
                exact absurd c90 (by omega)
              · skip
                refine z_iconst mx mb dX2_errorPosition_93 ?_
                refine z_goto (tgt := 101) mx mb dX2_errorPosition_94 (by decide) ?_
                rw [hQ]
                exact z_retP mx mb mr mlk (by unfold fault; rw [← hi2, if_pos e4]; first | (rw [if_pos (by omega)]; done) | (rw [if_neg (by omega)]; done)) dX2_errorPosition_101
      · skip
        have k1 := htx x2 (by omega) (by omega)
        refine z_iload_n mx mb dX2_errorPosition_12 rfl 2 rfl ?_
        refine z_iconst mx mb dX2_errorPosition_13 ?_
        refine z_irem mx mb (by omega) (by omega) dX2_errorPosition_14 ?_
        refine z_if_ne (tgt := 26) mx mb (by omega) dX2_errorPosition_15 (by decide) (fun c15 => ?_) (fun c15 => ?_)
        · skip
          refine z_aload_n mx mb dX2_errorPosition_26 rfl 0 rfl ?_
          refine z_iload_n mx mb dX2_errorPosition_27 rfl 2 rfl ?_
          refine z_iload_n mx mb dX2_errorPosition_28 rfl 1 rfl ?_
          refine z_callP (As := [.int (iZ x2), .int (iZ x1)]) (rest := []) ⟨mx, mb, mml, mo, mts⟩ hK (zgp hP) (c_X2_kindFits l D y b x ln x2 x1 (by omega) (by omega) (by assumption)) (cwV 2 mts gX2_errorPosition_X2_kindFits rfl rfl rfl (by decide +kernel) ⟨Nat.le_of_ble_eq_true rfl, Nat.le_of_ble_eq_true rfl⟩) (fun _ h => h) 0 wX_0 rfl rfl rfl rfl (Nat.le_of_ble_eq_true rfl) ⟨Nat.zero_le _, Nat.zero_le _⟩ dX2_errorPosition_29 ?_
          refine z_istore_n mx mb dX2_errorPosition_32 rfl (by decide) [(3, .int (iZ (b2z (x x2 = 108 ∨ x x2 = 46 ∨ (x x2 = 98 ∧ x1 < 8))))), (0, .ref (b 0)), (1, .int (iZ x1)), (2, .int (iZ x2))] rfl ?_
          refine z_iload_n mx mb dX2_errorPosition_33 rfl 0 rfl ?_
          refine z_if_ne (tgt := 39) mx mb (b2z_rng _) dX2_errorPosition_34 (by decide) (fun c34 => ?_) (fun c34 => ?_)
          · skip
            refine z_aload_n mx mb dX2_errorPosition_39 rfl 1 rfl ?_
            refine z_get (C := RX2) (T := TX2) (N := 2) mx mb mts (in_X2_errorPosition_X2) mo hK (zgp hP) 0 wX_0 rfl 0 (by decide) (mts _ (List.mem_of_getElem? (i := 2) rfl)) (fun _ h9 => h9) rfl dX2_errorPosition_40 ?_
            refine z_iload_n mx mb dX2_errorPosition_43 rfl 3 rfl ?_
            refine z_iald mx mb hK (zgp hP) 1 0 wX_1 rfl (by decide) (by omega) dX2_errorPosition_44 ?_
            refine z_bipush mx mb dX2_errorPosition_45 (by decide +kernel) ?_
            refine z_icmp_ne (tgt := 53) mx mb (by omega) (by omega) dX2_errorPosition_47 (by decide) (fun c47 => ?_) (fun c47 => ?_)
            · skip
              refine z_iinc mx mb dX2_errorPosition_53 3 rfl (by decide) [(2, .int (iZ (x2 + 1))), (3, .int (iZ (b2z (x x2 = 108 ∨ x x2 = 46 ∨ (x x2 = 98 ∧ x1 < 8))))), (0, .ref (b 0)), (1, .int (iZ x1))] rfl ?_
              refine z_goto (tgt := 4) mx mb dX2_errorPosition_56 (by decide) ?_
              refine z_lv [2, 3, 0] rfl ?_
              exact ih (i + 1) _ _ (by omega) (by omega) (by rw [brs, if_neg (fun q => c47 (by rw [e3]; exact q.2)), e1]; omega) (by omega) (by have nb : ¬ bad x i = true := (fun q => by have w := (bad_odd (n := i) (by omega)).mp q; have z := b2z_ne c34; rw [e3] at z; have q1 := kindBy_2 (c := x i); have q2 := kindBy_m (c := x i); omega); exact fst_next e4 nb) (by rw [brs, if_neg (fun q => c47 (by rw [e3]; exact q.2))]; have z := b2z_ne c34; rw [e3] at z; omega)
            · skip
              refine z_iinc mx mb dX2_errorPosition_50 2 rfl (by decide) [(1, .int (iZ (x1 + 1))), (3, .int (iZ (b2z (x x2 = 108 ∨ x x2 = 46 ∨ (x x2 = 98 ∧ x1 < 8))))), (0, .ref (b 0)), (2, .int (iZ x2))] rfl ?_
              refine z_iinc mx mb dX2_errorPosition_53 3 rfl (by decide) [(2, .int (iZ (x2 + 1))), (1, .int (iZ (x1 + 1))), (3, .int (iZ (b2z (x x2 = 108 ∨ x x2 = 46 ∨ (x x2 = 98 ∧ x1 < 8))))), (0, .ref (b 0))] rfl ?_
              refine z_goto (tgt := 4) mx mb dX2_errorPosition_56 (by decide) ?_
              refine z_lv [3, 1, 0] rfl ?_
              exact ih (i + 1) _ _ (by omega) (by omega) (by rw [brs, if_pos ⟨by omega, by rw [← e3]; exact c47⟩, e1]) (by omega) (by have nb : ¬ bad x i = true := (fun q => by have w := (bad_odd (n := i) (by omega)).mp q; have z := b2z_ne c34; rw [e3] at z; have q1 := kindBy_2 (c := x i); have q2 := kindBy_m (c := x i); omega); exact fst_next e4 nb) (by rw [brs, if_pos ⟨by omega, by rw [← e3]; exact c47⟩]; have z := b2z_ne c34; rw [e3] at z; rw [e3] at c47; omega)
          · skip
            refine z_iload_n mx mb dX2_errorPosition_37 rfl 3 rfl ?_
            rw [hQ]
            exact z_retP mx mb mr mlk (by have z := b2z_e c34; rw [e3] at z; rw [e3]; exact (fault_at (by omega) e4 ((bad_odd (by omega)).mpr (by have q1 := kindBy_2 (c := x i); have q2 := kindBy_m (c := x i); omega))).symm) dX2_errorPosition_38
        · skip
          refine z_aload_n mx mb dX2_errorPosition_18 rfl 0 rfl ?_
          refine z_iload_n mx mb dX2_errorPosition_19 rfl 2 rfl ?_
          refine z_callP (As := [.int (iZ x2)]) (rest := []) ⟨mx, mb, mml, mo, mts⟩ hK (zgp hP) (c_X2_heightFits l D y b x ln x2 (by omega) (by assumption)) (cwV 1 mts gX2_errorPosition_X2_heightFits rfl rfl rfl (by decide +kernel) ⟨Nat.le_of_ble_eq_true rfl, Nat.le_of_ble_eq_true rfl⟩) (fun _ h => h) 0 wX_0 rfl rfl rfl rfl (Nat.le_of_ble_eq_true rfl) ⟨Nat.zero_le _, Nat.zero_le _⟩ dX2_errorPosition_20 ?_
          refine z_goto (tgt := 32) mx mb dX2_errorPosition_23 (by decide) ?_
          refine z_istore_n mx mb dX2_errorPosition_32 rfl (by decide) [(3, .int (iZ (b2z (x2 / 2 < 30 ∧ 48 ≤ x x2 ∧ x x2 ≤ 57)))), (0, .ref (b 0)), (1, .int (iZ x1)), (2, .int (iZ x2))] rfl ?_
          refine z_iload_n mx mb dX2_errorPosition_33 rfl 0 rfl ?_
          refine z_if_ne (tgt := 39) mx mb (b2z_rng _) dX2_errorPosition_34 (by decide) (fun c34 => ?_) (fun c34 => ?_)
          · skip
            refine z_aload_n mx mb dX2_errorPosition_39 rfl 1 rfl ?_
            refine z_get (C := RX2) (T := TX2) (N := 2) mx mb mts (in_X2_errorPosition_X2) mo hK (zgp hP) 0 wX_0 rfl 0 (by decide) (mts _ (List.mem_of_getElem? (i := 2) rfl)) (fun _ h9 => h9) rfl dX2_errorPosition_40 ?_
            refine z_iload_n mx mb dX2_errorPosition_43 rfl 3 rfl ?_
            refine z_iald mx mb hK (zgp hP) 1 0 wX_1 rfl (by decide) (by omega) dX2_errorPosition_44 ?_
            refine z_bipush mx mb dX2_errorPosition_45 (by decide +kernel) ?_
            refine z_icmp_ne (tgt := 53) mx mb (by omega) (by omega) dX2_errorPosition_47 (by decide) (fun c47 => ?_) (fun c47 => ?_)
            · skip
              refine z_iinc mx mb dX2_errorPosition_53 3 rfl (by decide) [(2, .int (iZ (x2 + 1))), (3, .int (iZ (b2z (x2 / 2 < 30 ∧ 48 ≤ x x2 ∧ x x2 ≤ 57)))), (0, .ref (b 0)), (1, .int (iZ x1))] rfl ?_
              refine z_goto (tgt := 4) mx mb dX2_errorPosition_56 (by decide) ?_
              refine z_lv [2, 3, 0] rfl ?_
              exact ih (i + 1) _ _ (by omega) (by omega) (by rw [brs, if_neg (fun q => c47 (by rw [e3]; exact q.2)), e1]; omega) (by omega) (by have nb : ¬ bad x i = true := (fun q => by have w := (bad_even (n := i) (by omega)).mp q; have z := b2z_ne c34; rw [e3] at z; omega); exact fst_next e4 nb) (by rw [brs, if_neg (fun q => c47 (by rw [e3]; exact q.2))]; have z := b2z_ne c34; rw [e3] at z; omega)
            · skip
              exact absurd c47 (by have z := b2z_ne c34; omega)
          · skip
            refine z_iload_n mx mb dX2_errorPosition_37 rfl 3 rfl ?_
            rw [hQ]
            exact z_retP mx mb mr mlk (by have z := b2z_e c34; rw [e3] at z; rw [e3]; exact (fault_at (by omega) e4 ((bad_even (by omega)).mpr (by omega))).symm) dX2_errorPosition_38
  refine z_lv [2, 1, 0] rfl ?_
  exact lp4 _ 0 0 0 (Nat.lt_succ_self _) (by omega) (by rfl) (by rfl) (by rfl) (by show (0 : Int) ≤ 8 ∧ ((0 : Nat) : Int) ≤ 60; omega)
