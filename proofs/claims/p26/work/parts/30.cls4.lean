theorem in_X0_logDispatch_X0 : ∀ w ∈ wsX00, w ∈ wsX0_logDispatch := by decide +kernel
set_option maxRecDepth 100000 in
set_option maxHeartbeats 4000000 in
theorem c_X0_logDispatch (l : Launch) (D : va_G) (sz : Nat) (y : Nat → ClassId) (a : Nat → Nat) (R : Nat → Int → Int) (f : Int → Int) (t : Int) (hG : Lg f) (hN : Ns f) (hR : Rel f R) (hW : Wf f) : Met l yX0_logDispatch wsX0_logDispatch ({ frames := 1, cells := 0, slots := 0, locals := 21 } : Room) (zPw D vwCl (zT y) (wR y a R) sz [.ref (a 0), .int (iZ t)]) (va_Qv (fun R' : Nat → Int → Int => Rel (dispatches f t) R') (zB D vwCl (zT y) (wR y a R) sz (fun R' : Nat → Int → Int => wR y a R')) (va_A (wR y a R) sz)) 0 0 (va_A (wR y a R) sz) := by
  refine z_headW (cc := cX0_logDispatch) (maxL := 3) (ret := none) [(0, .ref (a 0)), (1, .int (iZ t))] rfl (Nat.le_of_ble_eq_true rfl) (by decide +kernel) rfl ?_
  intro pp ee ss mm below meth cd mx mb mr mml mo mts mlk hK hname hsz hA
  generalize ([.ref (a 0), .int (iZ t)] : List Value).toArray = args at mts ⊢
  obtain ⟨wst, hw0⟩ : ∃ wst, wst = wR y a R := ⟨_, rfl⟩
  have hA : ∀ q, ss.heap.size ≤ q → va_A wst sz q := by rw [hw0]; exact hA
  obtain ⟨Q, hQ⟩ : ∃ Q, Q = MQ below (va_Qv (fun R' : Nat → Int → Int => Rel (dispatches f t) R') (zB D vwCl (zT y) wst sz (fun R' : Nat → Int → Int => wR y a R')) (va_A wst sz)) args ss 0 0 (va_A wst sz) := ⟨_, rfl⟩
  have hstart : Gz pp l ee ({ frames := 1, cells := 0, slots := 0, locals := 21 } : Room) ss mm args below meth cd 3 0 0 Q (Zw D vwCl (va_A wst sz) ss (wR y a R)) 0 [(0, .ref (a 0)), (1, .int (iZ t))] [] := by
    obtain ⟨⟨r0, r1, r2, r3, r4⟩, rc, rb, ⟨s0, s1, s2, s3⟩, rt, rl⟩ := id hR
    obtain ⟨w0, w1, w2, w3, w4, w5, w6⟩ := id hW
    obtain ⟨n3, n4, n5, n6, n7, n8, n9, n10⟩ := id hN
    refine z_aload_n mx mb dX0_logDispatch_0 rfl 0 rfl ?_
    refine z_dup mx mb dX0_logDispatch_1 rfl ?_
    refine z_get (C := RX0) (T := TX0) (N := 9) mx mb mts (in_X0_logDispatch_X0) mo hK zgw 0 wR_0 rfl 8 (by decide) (mts _ (List.mem_of_getElem? (i := 1) rfl)) (fun _ h9 => h9) rfl dX0_logDispatch_2 ?_
    refine z_iconst mx mb dX0_logDispatch_5 ?_
    refine z_iadd mx mb dX0_logDispatch_6 ?_
    refine z_put (ty := .int) (C := RX0) (T := TX0) (N := 9) mx mb mts (in_X0_logDispatch_X0) tyX0_ok nmX0 mo hK 0 wR_0 rfl 8 (by decide) (mts _ (List.mem_of_getElem? (i := 1) rfl)) (fun _ h9 => h9) rfl (by decide +kernel) rfl rfl (Nat.le_of_ble_eq_true rfl) dX0_logDispatch_7 (wR y a (uc R 0 (zu (R 0) 2 ((R 0 2) + 1)))) wR_s0_2 ?_
    refine z_aload_n mx mb dX0_logDispatch_10 rfl 0 rfl ?_
    refine z_iconst mx mb dX0_logDispatch_11 ?_
    refine z_callP (As := [.int (iZ 0)]) (rest := []) ⟨mx, mb, mml, mo, mts⟩ hK zgw (c_X0_logPlace l D y a (uc R 0 (zu (R 0) 2 ((R 0 2) + 1))) f 0 (show (0:Int) ≤ 0 ∧ (0:Int) ≤ R 0 2 + 1 - 1 ∧ R 0 2 + 1 ≤ 2000000 by omega)) (cwV 1 mts gX0_logDispatch_X0_logPlace rfl rfl rfl (by decide +kernel) ⟨Nat.le_of_ble_eq_true rfl, Nat.le_of_ble_eq_true rfl⟩) (fun _ h => h) 0 wR_0 rfl rfl rfl rfl (Nat.le_of_ble_eq_true rfl) ⟨Nat.zero_le _, Nat.zero_le _⟩ dX0_logDispatch_12 ?_
    refine z_top (show ((uc R 0 (zu (R 0) 2 ((R 0 2) + 1))) 0 2 - 1 - 0) % 30 = f 8 % 30 from by show (R 0 2 + 1 - 1 - 0) % 30 = f 8 % 30; rw [show R 0 2 + 1 - 1 - 0 = f 8 by omega]) ?_
    refine z_istore_n mx mb dX0_logDispatch_15 rfl (by decide) [(2, .int (iZ (f 8 % 30))), (0, .ref (a 0)), (1, .int (iZ t))] rfl ?_
    refine z_aload_n mx mb dX0_logDispatch_16 rfl 1 rfl ?_
    refine z_get (C := RX0) (T := TX0) (N := 9) mx mb mts (in_X0_logDispatch_X0) mo hK zgw 0 wR_0 rfl 4 (by decide) (mts _ (List.mem_of_getElem? (i := 2) rfl)) (fun _ h9 => h9) rfl dX0_logDispatch_17 ?_
    refine z_iload_n mx mb dX0_logDispatch_20 rfl 0 rfl ?_
    refine z_aload_n mx mb dX0_logDispatch_21 rfl 1 rfl ?_
    refine z_get (C := RX0) (T := TX0) (N := 9) mx mb mts (in_X0_logDispatch_X0) mo hK zgw 0 wR_0 rfl 7 (by decide) (mts _ (List.mem_of_getElem? (i := 3) rfl)) (fun _ h9 => h9) rfl dX0_logDispatch_22 ?_
    refine z_top (show (uc R 0 (zu (R 0) 2 ((R 0 2) + 1))) 0 1 = f 3 from by show R 0 1 = f 3; exact r3) ?_
    refine z_iast mx mb hK 13 0 wR_13 rfl (by decide) (by omega) dX0_logDispatch_25 (wR y a (uc (uc R 0 (zu (R 0) 2 ((R 0 2) + 1))) 13 (zu ((uc R 0 (zu (R 0) 2 ((R 0 2) + 1))) 13) (f 8 % 30) (f 3)))) wR_s13 ?_
    refine z_aload_n mx mb dX0_logDispatch_26 rfl 1 rfl ?_
    refine z_get (C := RX0) (T := TX0) (N := 9) mx mb mts (in_X0_logDispatch_X0) mo hK zgw 0 wR_0 rfl 5 (by decide) (mts _ (List.mem_of_getElem? (i := 4) rfl)) (fun _ h9 => h9) rfl dX0_logDispatch_27 ?_
    refine z_iload_n mx mb dX0_logDispatch_30 rfl 0 rfl ?_
    refine z_iload_n mx mb dX0_logDispatch_31 rfl 2 rfl ?_
    refine z_iast mx mb hK 14 0 wR_14 rfl (by decide) (by omega) dX0_logDispatch_32 (wR y a (uc (uc (uc R 0 (zu (R 0) 2 ((R 0 2) + 1))) 13 (zu ((uc R 0 (zu (R 0) 2 ((R 0 2) + 1))) 13) (f 8 % 30) (f 3))) 14 (zu ((uc (uc R 0 (zu (R 0) 2 ((R 0 2) + 1))) 13 (zu ((uc R 0 (zu (R 0) 2 ((R 0 2) + 1))) 13) (f 8 % 30) (f 3))) 14) (f 8 % 30) t))) wR_s14 ?_
    rw [hQ]
    exact z_retV mx mb mr mlk hK (uc (uc (uc R 0 (zu (R 0) 2 ((R 0 2) + 1))) 13 (zu ((uc R 0 (zu (R 0) 2 ((R 0 2) + 1))) 13) (f 8 % 30) (f 3))) 14 (zu ((uc (uc R 0 (zu (R 0) 2 ((R 0 2) + 1))) 13 (zu ((uc R 0 (zu (R 0) 2 ((R 0 2) + 1))) 13) (f 8 % 30) (f 3))) 14) (f 8 % 30) t)) (by show Rel _ _; exact rel_disp hR hG hN hW) rfl dX0_logDispatch_33
  subst hQ
  subst hw0
  exact hstart

theorem in_X0_waitOrStart_X0 : ∀ w ∈ wsX00, w ∈ wsX0_waitOrStart := by decide +kernel
theorem in_X0_waitOrStart_X3 : ∀ w ∈ wsX30, w ∈ wsX0_waitOrStart := by decide +kernel
set_option maxRecDepth 100000 in
set_option maxHeartbeats 4000000 in
theorem c_X0_waitOrStart (l : Launch) (D : va_G) (sz : Nat) (y : Nat → ClassId) (a : Nat → Nat) (R : Nat → Int → Int) (f : Int → Int) (t : Nat) (ht : (t : Int) < f 2 ∧ t < 4) (hm : f (79 + 8 * (t : Int) + 4) = 1) (hJ : Jx f) (kp : Kp f) (hR : Rel f R) : Met l yX0_waitOrStart wsX0_waitOrStart ({ frames := 3, cells := 0, slots := 0, locals := 67 } : Room) (zPw D vwCl (zT y) (wR y a R) sz [.ref (a 0), .int (iZ (t : Int))]) (va_Qv (fun R' : Nat → Int → Int => Rel (waits f (t : Int)) R') (zB D vwCl (zT y) (wR y a R) sz (fun R' : Nat → Int → Int => wR y a R')) (va_A (wR y a R) sz)) 0 0 (va_A (wR y a R) sz) := by
  refine z_headW (cc := cX0_waitOrStart) (maxL := 3) (ret := none) [(0, .ref (a 0)), (1, .int (iZ (t : Int)))] rfl (Nat.le_of_ble_eq_true rfl) (by decide +kernel) rfl ?_
  intro pp ee ss mm below meth cd mx mb mr mml mo mts mlk hK hname hsz hA
  generalize ([.ref (a 0), .int (iZ (t : Int))] : List Value).toArray = args at mts ⊢
  obtain ⟨wst, hw0⟩ : ∃ wst, wst = wR y a R := ⟨_, rfl⟩
  have hA : ∀ q, ss.heap.size ≤ q → va_A wst sz q := by rw [hw0]; exact hA
  obtain ⟨Q, hQ⟩ : ∃ Q, Q = MQ below (va_Qv (fun R' : Nat → Int → Int => Rel (waits f (t : Int)) R') (zB D vwCl (zT y) wst sz (fun R' : Nat → Int → Int => wR y a R')) (va_A wst sz)) args ss 0 0 (va_A wst sz) := ⟨_, rfl⟩
  have hstart : Gz pp l ee ({ frames := 3, cells := 0, slots := 0, locals := 67 } : Room) ss mm args below meth cd 3 0 0 Q (Zw D vwCl (va_A wst sz) ss (wR y a R)) 0 [(0, .ref (a 0)), (1, .int (iZ (t : Int)))] [] := by
    obtain ⟨hW, hN, hT⟩ := hJ.f
    obtain ⟨kA, hG, hS⟩ := id kp
    obtain ⟨⟨r0, r1, r2, r3, r4⟩, rc, rb, ⟨s0, s1, s2, s3⟩, rt, rl⟩ := id hR
    obtain ⟨w0, w1, w2, w3, w4, w5, w6⟩ := id hW
    have et : ∀ k : Int, 0 ≤ k → k < 8 → R (8 + t) k = f (79 + 8 * (t : Int) + k) := rt t ht.1
    have q0 := w6 (t : Int) (by omega) (by omega)
    have ht4 : 0 ≤ (t : Int) ∧ (t : Int) < 4 := by omega
    obtain ⟨T1, T2, T3, T5, T7⟩ := hT (t : Int) ht4.1 ht4.2
    obtain ⟨n3, n4, n5, n6, n7, n8, n9, n10⟩ := id hN
    have wy : 0 ≤ whyOf f (t : Int) ∧ whyOf f (t : Int) ≤ 5 := (by have := holds_rng f (t : Int) (f (79 + 8 * (t : Int) + 5) + 1); unfold whyOf; split <;> (try split) <;> omega)
    refine z_aload_n mx mb dX0_waitOrStart_0 rfl 0 rfl ?_
    refine z_get (C := RX0) (T := TX0) (N := 9) mx mb mts (in_X0_waitOrStart_X0) mo hK zgw 0 wR_0 rfl 1 (by decide) (mts _ (List.mem_of_getElem? (i := 1) rfl)) (fun _ h9 => h9) rfl dX0_waitOrStart_1 ?_
    refine z_iload_n mx mb dX0_waitOrStart_4 rfl 1 rfl ?_
    refine z_aald (i := t) mx mb hK zgw 6 1 wR_6 rfl (by decide) (by omega) dX0_waitOrStart_5 ?_
    refine z_astore_n mx mb dX0_waitOrStart_6 rfl (by decide) [(2, .ref (a (8 + t))), (0, .ref (a 0)), (1, .int (iZ (t : Int)))] rfl ?_
    refine z_aload_n mx mb dX0_waitOrStart_7 rfl 1 rfl ?_
    refine z_aload_n mx mb dX0_waitOrStart_8 rfl 0 rfl ?_
    refine z_callP (As := [.ref (a (8 + t))]) (rest := []) ⟨mx, mb, mml, mo, mts⟩ hK zgw (c_X0_reasonOf l D y a R f t (by omega) (by omega) (by assumption) (by assumption) (by assumption) (by assumption) (by assumption)) (cwV 1 mts gX0_waitOrStart_X0_reasonOf rfl rfl rfl (by decide +kernel) ⟨Nat.le_of_ble_eq_true rfl, Nat.le_of_ble_eq_true rfl⟩) (fun _ h => h) 0 wR_0 rfl rfl rfl rfl (Nat.le_of_ble_eq_true rfl) ⟨Nat.zero_le _, Nat.zero_le _⟩ dX0_waitOrStart_9 ?_
    refine z_iconst mx mb dX0_waitOrStart_12 ?_
    refine z_icmp_eq (tgt := 27) mx mb (by omega) (by omega) dX0_waitOrStart_13 (by decide) (fun c13 => ?_) (fun c13 => ?_)
    · skip
      refine z_aload_n mx mb dX0_waitOrStart_27 rfl 0 rfl ?_
      refine z_callT (t := t) (As := []) (rest := []) (by omega) ⟨mx, mb, mml, mo, mts⟩ hK hA (fun sz => c_X3_start l D sz y (a (8 + t)) (R (8 + t))  ) (cwV 0 mts gX0_waitOrStart_X3_start rfl rfl rfl (by decide +kernel) ⟨Nat.le_of_ble_eq_true rfl, Nat.le_of_ble_eq_true rfl⟩) rfl rfl (Nat.le_of_ble_eq_true rfl) ⟨Nat.zero_le _, Nat.zero_le _⟩ dX0_waitOrStart_28 ?_
      have hR1 : Rel (runs (put f (t : Int) 5 (f (79 + 8 * (t : Int) + 5) + 1)) (t : Int)) (uc R (8 + t) (zu (zu (zu (zu (R (8 + t)) 1 25) 2 0) 4 0) 5 0)) := by exact rel_start hR hW ht.1
      generalize uc R (8 + t) (zu (zu (zu (zu (R (8 + t)) 1 25) 2 0) 4 0) 5 0) = R1 at hR1 ⊢
      obtain ⟨⟨r0, r1, r2, r3, r4⟩, rc, rb, ⟨s0, s1, s2, s3⟩, rt, rl⟩ := id hR1
      obtain ⟨g1, g2, g3, g4, g5, g6, g7⟩ := go_facts hJ hG ht4 (f (79 + 8 * (t : Int) + 5) + 1)
      have bb := blockAt_rng hW q0.1
      refine z_aload_n mx mb dX0_waitOrStart_31 rfl 1 rfl ?_
      refine z_aload_n mx mb dX0_waitOrStart_32 rfl 0 rfl ?_
      refine z_callP (As := [.ref (a (8 + t))]) (rest := []) ⟨mx, mb, mml, mo, mts⟩ hK zgw (c_X0_blockOf l D y a R1 (runs (put f (t : Int) 5 (f (79 + 8 * (t : Int) + 5) + 1)) (t : Int)) t (by omega) (by assumption) (by assumption)) (cwV 1 mts gX0_waitOrStart_X0_blockOf rfl rfl rfl (by decide +kernel) ⟨Nat.le_of_ble_eq_true rfl, Nat.le_of_ble_eq_true rfl⟩) (fun _ h => h) 0 wR_0 rfl rfl rfl rfl (Nat.le_of_ble_eq_true rfl) ⟨Nat.zero_le _, Nat.zero_le _⟩ dX0_waitOrStart_33 ?_
      refine z_top (show blockAt (runs (put f (t : Int) 5 (f (79 + 8 * (t : Int) + 5) + 1)) (t : Int)) ((runs (put f (t : Int) 5 (f (79 + 8 * (t : Int) + 5) + 1)) (t : Int)) (79 + 8 * (t : Int) + 0)) = blockAt f (f (79 + 8 * (t : Int) + 0)) from by exact g5) ?_
      refine z_if_ne (tgt := 44) mx mb (by omega) dX0_waitOrStart_36 (by decide) (fun c36 => ?_) (fun c36 => ?_)
      · skip
        rw [hQ]
        exact z_retV mx mb mr mlk hK R1 (by show Rel _ _; rw [waits_go hW ht4 hm n10 c13, if_neg c36]; exact hR1) rfl dX0_waitOrStart_44
      · skip
        refine z_aload_n mx mb dX0_waitOrStart_39 rfl 1 rfl ?_
        refine z_iload_n mx mb dX0_waitOrStart_40 rfl 2 rfl ?_
        refine z_callV0 (As := [.int (iZ (t : Int))]) (rest := []) ⟨mx, mb, mml, mo, mts⟩ hK hA (fun sz => c_X0_logDispatch l D sz y a R1 (runs (put f (t : Int) 5 (f (79 + 8 * (t : Int) + 5) + 1)) (t : Int)) (t : Int) (by assumption) (by assumption) (by assumption) (by assumption)) (cwV 1 mts gX0_waitOrStart_X0_logDispatch rfl rfl rfl (by decide +kernel) ⟨Nat.le_of_ble_eq_true rfl, Nat.le_of_ble_eq_true rfl⟩) 0 wR_0 rfl rfl rfl rfl (Nat.le_of_ble_eq_true rfl) ⟨Nat.zero_le _, Nat.zero_le _⟩ dX0_waitOrStart_41 (fun u41 hu41 => ?_)
        have hu41 : Rel (dispatches (runs (put f (t : Int) 5 (f (79 + 8 * (t : Int) + 5) + 1)) (t : Int)) (t : Int)) u41 := hu41
        show Gz pp l ee ({ frames := 3, cells := 0, slots := 0, locals := 67 } : Room) ss mm args below meth cd 3 0 0 Q (Zw D vwCl (va_A wst sz) ss (wR y a u41)) 44 [(2, .ref (a (8 + t))), (0, .ref (a 0)), (1, .int (iZ (t : Int)))] []
        rw [hQ]
        exact z_retV mx mb mr mlk hK u41 (by show Rel _ _; rw [waits_go hW ht4 hm n10 c13, if_pos c36]; assumption) rfl dX0_waitOrStart_44
    · skip
      refine z_aload_n mx mb dX0_waitOrStart_16 rfl 0 rfl ?_
      refine z_dup mx mb dX0_waitOrStart_17 rfl ?_
      refine z_get (C := RX3) (T := TX3) (N := 8) mx mb mts (in_X0_waitOrStart_X3) mo hK zgw (8 + t) (wR_t (by omega)) rfl 5 (by decide) (mts _ (List.mem_of_getElem? (i := 2) rfl)) (fun _ h9 => h9) rfl dX0_waitOrStart_18 ?_
      refine z_iconst mx mb dX0_waitOrStart_21 ?_
      refine z_iadd mx mb dX0_waitOrStart_22 ?_
      refine z_put (ty := .int) (C := RX3) (T := TX3) (N := 8) mx mb mts (in_X0_waitOrStart_X3) tyX3_ok nmX3 mo hK (8 + t) (wR_t (by omega)) rfl 5 (by decide) (mts _ (List.mem_of_getElem? (i := 2) rfl)) (fun _ h9 => h9) rfl (by decide +kernel) rfl rfl (Nat.le_of_ble_eq_true rfl) dX0_waitOrStart_23 (wR y a (uc R (8 + t) (zu (R (8 + t)) 5 ((R (8 + t) 5) + 1)))) (wR_stk (by omega) 5 (by decide)) ?_
      rw [hQ]
      exact z_retV mx mb mr mlk hK (uc R (8 + t) (zu (R (8 + t)) 5 ((R (8 + t) 5) + 1))) (by show Rel _ _; rw [waits_no hW ht4 hm c13, ← et 5 (by omega) (by omega)]; exact rel_put hR hW ht.1 (by omega)) rfl dX0_waitOrStart_26
  subst hQ
  subst hw0
  exact hstart

theorem in_X0_comeToBrake_X0 : ∀ w ∈ wsX00, w ∈ wsX0_comeToBrake := by decide +kernel
theorem in_X0_comeToBrake_X3 : ∀ w ∈ wsX30, w ∈ wsX0_comeToBrake := by decide +kernel
set_option maxRecDepth 100000 in
set_option maxHeartbeats 4000000 in
theorem c_X0_comeToBrake (l : Launch) (D : va_G) (sz : Nat) (y : Nat → ClassId) (a : Nat → Nat) (R : Nat → Int → Int) (f : Int → Int) (t : Nat) (ht : (t : Int) < f 2 ∧ t < 4) (aps : Ap (stands f (t : Int))) (hR : Rel f R) (hW : Wf f) : Met l yX0_comeToBrake wsX0_comeToBrake ({ frames := 2, cells := 0, slots := 0, locals := 44 } : Room) (zPw D vwCl (zT y) (wR y a R) sz [.ref (a 0), .ref (a (8 + t))]) (va_Qv (fun R' : Nat → Int → Int => Rel (comes f (t : Int)) R') (zB D vwCl (zT y) (wR y a R) sz (fun R' : Nat → Int → Int => wR y a R')) (va_A (wR y a R) sz)) 0 0 (va_A (wR y a R) sz) := by
  refine z_headW (cc := cX0_comeToBrake) (maxL := 3) (ret := none) [(0, .ref (a 0)), (1, .ref (a (8 + t)))] rfl (Nat.le_of_ble_eq_true rfl) (by decide +kernel) rfl ?_
  intro pp ee ss mm below meth cd mx mb mr mml mo mts mlk hK hname hsz hA
  generalize ([.ref (a 0), .ref (a (8 + t))] : List Value).toArray = args at mts ⊢
  obtain ⟨wst, hw0⟩ : ∃ wst, wst = wR y a R := ⟨_, rfl⟩
  have hA : ∀ q, ss.heap.size ≤ q → va_A wst sz q := by rw [hw0]; exact hA
  obtain ⟨Q, hQ⟩ : ∃ Q, Q = MQ below (va_Qv (fun R' : Nat → Int → Int => Rel (comes f (t : Int)) R') (zB D vwCl (zT y) wst sz (fun R' : Nat → Int → Int => wR y a R')) (va_A wst sz)) args ss 0 0 (va_A wst sz) := ⟨_, rfl⟩
  have hstart : Gz pp l ee ({ frames := 2, cells := 0, slots := 0, locals := 44 } : Room) ss mm args below meth cd 3 0 0 Q (Zw D vwCl (va_A wst sz) ss (wR y a R)) 0 [(0, .ref (a 0)), (1, .ref (a (8 + t)))] [] := by
    obtain ⟨⟨r0, r1, r2, r3, r4⟩, rc, rb, ⟨s0, s1, s2, s3⟩, rt, rl⟩ := id hR
    obtain ⟨w0, w1, w2, w3, w4, w5, w6⟩ := id hW
    have et : ∀ k : Int, 0 ≤ k → k < 8 → R (8 + t) k = f (79 + 8 * (t : Int) + k) := rt t ht.1
    have q0 := w6 (t : Int) (by omega) (by omega)
    have ht4 : 0 ≤ (t : Int) ∧ (t : Int) < 4 := by omega
    have hS := Wf_stands hW ht4
    have s2e : stands f (t : Int) 2 = f 2 := stands_2 ht4.1 (by omega)
    have s1e : stands f (t : Int) 1 = f 1 := stands_2 ht4.1 (by omega)
    have bb := blockAt_rng hW q0.1
    have w1 := hW.2.1
    have sb : blockAt (stands f (t : Int)) (stands f (t : Int) (79 + 8 * (t : Int) + 0)) = blockAt f (f (79 + 8 * (t : Int) + 0)) := by rw [stands_at0, blockAt_congr (f := f) (by omega) s1e (fun i _ _ => stands_2 ht4.1 (by omega))]
    refine z_aload_n mx mb dX0_comeToBrake_0 rfl 1 rfl ?_
    refine z_aload_n mx mb dX0_comeToBrake_1 rfl 1 rfl ?_
    refine z_get (C := RX3) (T := TX3) (N := 8) mx mb mts (in_X0_comeToBrake_X3) mo hK zgw (8 + t) (wR_t (by omega)) rfl 0 (by decide) (mts _ (List.mem_of_getElem? (i := 1) rfl)) (fun _ h9 => h9) rfl dX0_comeToBrake_2 ?_
    refine z_callT (t := t) (As := [.int (iZ (R (8 + t) 0))]) (rest := []) (by omega) ⟨mx, mb, mml, mo, mts⟩ hK hA (fun sz => c_X3_standOn l D sz y (a (8 + t)) (R (8 + t)) (R (8 + t) 0) ) (cwV 1 mts gX0_comeToBrake_X3_standOn rfl rfl rfl (by decide +kernel) ⟨Nat.le_of_ble_eq_true rfl, Nat.le_of_ble_eq_true rfl⟩) rfl rfl (Nat.le_of_ble_eq_true rfl) ⟨Nat.zero_le _, Nat.zero_le _⟩ dX0_comeToBrake_5 ?_
    have hR1 : Rel (stands f (t : Int)) (uc R (8 + t) (zu (zu (zu (zu (zu (R (8 + t)) 0 (R (8 + t) 0)) 1 0) 2 0) 4 1) 5 0)) := by exact rel_stand hR hW ht.1
    generalize uc R (8 + t) (zu (zu (zu (zu (zu (R (8 + t)) 0 (R (8 + t) 0)) 1 0) 2 0) 4 1) 5 0) = R1 at hR1 ⊢
    obtain ⟨⟨r0, r1, r2, r3, r4⟩, rc, rb, ⟨s0, s1, s2, s3⟩, rt, rl⟩ := id hR1
    refine z_aload_n mx mb dX0_comeToBrake_8 rfl 0 rfl ?_
    refine z_aload_n mx mb dX0_comeToBrake_9 rfl 1 rfl ?_
    refine z_callP (As := [.ref (a (8 + t))]) (rest := []) ⟨mx, mb, mml, mo, mts⟩ hK zgw (c_X0_blockOf l D y a R1 (stands f (t : Int)) t (by omega) (by assumption) (by assumption)) (cwV 1 mts gX0_comeToBrake_X0_blockOf rfl rfl rfl (by decide +kernel) ⟨Nat.le_of_ble_eq_true rfl, Nat.le_of_ble_eq_true rfl⟩) (fun _ h => h) 0 wR_0 rfl rfl rfl rfl (Nat.le_of_ble_eq_true rfl) ⟨Nat.zero_le _, Nat.zero_le _⟩ dX0_comeToBrake_10 ?_
    refine z_top (show blockAt (stands f (t : Int)) ((stands f (t : Int)) (79 + 8 * (t : Int) + 0)) = blockAt f (f (79 + 8 * (t : Int) + 0)) from by exact sb) ?_
    refine z_istore_n mx mb dX0_comeToBrake_13 rfl (by decide) [(2, .int (iZ (blockAt f (f (79 + 8 * (t : Int) + 0))))), (0, .ref (a 0)), (1, .ref (a (8 + t)))] rfl ?_
    refine z_iload_n mx mb dX0_comeToBrake_14 rfl 0 rfl ?_
    refine z_if_ne (tgt := 28) mx mb (by omega) dX0_comeToBrake_15 (by decide) (fun c15 => ?_) (fun c15 => ?_)
    · skip
      have hR2 : Rel (put (stands f (t : Int)) (t : Int) 7 (f (79 + 8 * (t : Int) + 7) + (if blockAt f (f (79 + 8 * (t : Int) + 0)) = 0 then 1 else 0))) R1 := by rw [if_neg c15, Int.add_zero]; exact rel_eq hR1 (zu_id stands_at7)
      generalize R1 = R2 at hR2 ⊢
      obtain ⟨⟨r0, r1, r2, r3, r4⟩, rc, rb, ⟨s0, s1, s2, s3⟩, rt, rl⟩ := id hR2
      obtain ⟨g1, g2, g3, g4, g5, g6, g7⟩ := come_facts hW ht4 aps (f (79 + 8 * (t : Int) + 7) + (if blockAt f (f (79 + 8 * (t : Int) + 0)) = 0 then 1 else 0))
      have nn := nextB_rng hW bb
      refine z_aload_n mx mb dX0_comeToBrake_28 rfl 1 rfl ?_
      refine z_aload_n mx mb dX0_comeToBrake_29 rfl 1 rfl ?_
      refine z_get (C := RX0) (T := TX0) (N := 9) mx mb mts (in_X0_comeToBrake_X0) mo hK zgw 0 wR_0 rfl 0 (by decide) (mts _ (List.mem_of_getElem? (i := 3) rfl)) (fun _ h9 => h9) rfl dX0_comeToBrake_30 ?_
      refine z_iload_n mx mb dX0_comeToBrake_33 rfl 0 rfl ?_
      refine z_callP (As := [.int (iZ (blockAt f (f (79 + 8 * (t : Int) + 0))))]) (rest := [.ref (a 0)]) ⟨mx, mb, mml, mo, mts⟩ hK zgw (c_X1_nextBlock l D y a R2 (put (stands f (t : Int)) (t : Int) 7 (f (79 + 8 * (t : Int) + 7) + (if blockAt f (f (79 + 8 * (t : Int) + 0)) = 0 then 1 else 0))) (blockAt f (f (79 + 8 * (t : Int) + 0))) (by omega) (by assumption) (by assumption)) (cwV 1 mts gX0_comeToBrake_X1_nextBlock rfl rfl rfl (by decide +kernel) ⟨Nat.le_of_ble_eq_true rfl, Nat.le_of_ble_eq_true rfl⟩) (fun _ h => h) 1 wR_1 rfl rfl rfl rfl (Nat.le_of_ble_eq_true rfl) ⟨Nat.zero_le _, Nat.zero_le _⟩ dX0_comeToBrake_34 ?_
      refine z_top (show nextB (put (stands f (t : Int)) (t : Int) 7 (f (79 + 8 * (t : Int) + 7) + (if blockAt f (f (79 + 8 * (t : Int) + 0)) = 0 then 1 else 0))) (blockAt f (f (79 + 8 * (t : Int) + 0))) = nextB f (blockAt f (f (79 + 8 * (t : Int) + 0))) from by exact g7 _) ?_
      refine z_callP (As := [.int (iZ (nextB f (blockAt f (f (79 + 8 * (t : Int) + 0)))))]) (rest := []) ⟨mx, mb, mml, mo, mts⟩ hK zgw (c_X0_isFree l D y a R2 (put (stands f (t : Int)) (t : Int) 7 (f (79 + 8 * (t : Int) + 7) + (if blockAt f (f (79 + 8 * (t : Int) + 0)) = 0 then 1 else 0))) (nextB f (blockAt f (f (79 + 8 * (t : Int) + 0)))) (by omega) (by assumption) (by assumption) (by assumption)) (cwV 1 mts gX0_comeToBrake_X0_isFree rfl rfl rfl (by decide +kernel) ⟨Nat.le_of_ble_eq_true rfl, Nat.le_of_ble_eq_true rfl⟩) (fun _ h => h) 0 wR_0 rfl rfl rfl rfl (Nat.le_of_ble_eq_true rfl) ⟨Nat.zero_le _, Nat.zero_le _⟩ dX0_comeToBrake_37 ?_
      refine z_if_ne (tgt := 53) mx mb (b2z_rng _) dX0_comeToBrake_40 (by decide) (fun c40 => ?_) (fun c40 => ?_)
      · skip
        rw [hQ]
        exact z_retV mx mb mr mlk hK R2 (by show Rel _ _; rw [comes_eq hW ht4, if_pos (show isFree (stands f (t : Int)) (nextB f (blockAt f (f (79 + 8 * (t : Int) + 0)))) = true from by rw [← g5]; exact b2z_ne c40)]; exact rel_eq hR2 (zu_id ((g6 _ (by omega)).trans (Int.add_zero _).symm))) rfl dX0_comeToBrake_53
      · skip
        refine z_aload_n mx mb dX0_comeToBrake_43 rfl 1 rfl ?_
        refine z_get (C := RX0) (T := TX0) (N := 9) mx mb mts (in_X0_comeToBrake_X0) mo hK zgw 0 wR_0 rfl 3 (by decide) (mts _ (List.mem_of_getElem? (i := 4) rfl)) (fun _ h9 => h9) rfl dX0_comeToBrake_44 ?_
        refine z_iload_n mx mb dX0_comeToBrake_47 rfl 0 rfl ?_
        refine z_dup2 mx mb dX0_comeToBrake_48 rfl rfl ?_
        refine z_iald mx mb hK zgw 12 0 wR_12 rfl (by decide) (by omega) dX0_comeToBrake_49 ?_
        refine z_top (show (R2 12) (blockAt f (f (79 + 8 * (t : Int) + 0))) = f (71 + blockAt f (f (79 + 8 * (t : Int) + 0))) from by rw [(rb _ bb.1 (by omega)).2]; exact g6 _ (by omega)) ?_
        refine z_iconst mx mb dX0_comeToBrake_50 ?_
        refine z_iadd mx mb dX0_comeToBrake_51 ?_
        refine z_iast mx mb hK 12 0 wR_12 rfl (by decide) (by omega) dX0_comeToBrake_52 (wR y a (uc R2 12 (zu (R2 12) (blockAt f (f (79 + 8 * (t : Int) + 0))) ((f (71 + blockAt f (f (79 + 8 * (t : Int) + 0)))) + 1)))) wR_s12 ?_
        rw [hQ]
        exact z_retV mx mb mr mlk hK (uc R2 12 (zu (R2 12) (blockAt f (f (79 + 8 * (t : Int) + 0))) ((f (71 + blockAt f (f (79 + 8 * (t : Int) + 0)))) + 1))) (by show Rel _ _; rw [comes_eq hW ht4, if_neg (show ¬ isFree (stands f (t : Int)) (nextB f (blockAt f (f (79 + 8 * (t : Int) + 0)))) = true from by rw [← g5]; exact b2z_e c40)]; exact rel_held hR2 g1 (by omega)) rfl dX0_comeToBrake_53
    · skip
      refine z_aload_n mx mb dX0_comeToBrake_18 rfl 2 rfl ?_
      refine z_dup mx mb dX0_comeToBrake_19 rfl ?_
      refine z_get (C := RX3) (T := TX3) (N := 8) mx mb mts (in_X0_comeToBrake_X3) mo hK zgw (8 + t) (wR_t (by omega)) rfl 7 (by decide) (mts _ (List.mem_of_getElem? (i := 2) rfl)) (fun _ h9 => h9) rfl dX0_comeToBrake_20 ?_
      refine z_iconst mx mb dX0_comeToBrake_23 ?_
      refine z_iadd mx mb dX0_comeToBrake_24 ?_
      refine z_put (ty := .int) (C := RX3) (T := TX3) (N := 8) mx mb mts (in_X0_comeToBrake_X3) tyX3_ok nmX3 mo hK (8 + t) (wR_t (by omega)) rfl 7 (by decide) (mts _ (List.mem_of_getElem? (i := 2) rfl)) (fun _ h9 => h9) rfl (by decide +kernel) rfl rfl (Nat.le_of_ble_eq_true rfl) dX0_comeToBrake_25 (wR y a (uc R1 (8 + t) (zu (R1 (8 + t)) 7 ((R1 (8 + t) 7) + 1)))) (wR_stk (by omega) 7 (by decide)) ?_
      have hR2 : Rel (put (stands f (t : Int)) (t : Int) 7 (f (79 + 8 * (t : Int) + 7) + (if blockAt f (f (79 + 8 * (t : Int) + 0)) = 0 then 1 else 0))) (uc R1 (8 + t) (zu (R1 (8 + t)) 7 ((R1 (8 + t) 7) + 1))) := by rw [if_pos c15, show f (79 + 8 * (t : Int) + 7) = stands f (t : Int) (79 + 8 * (t : Int) + 7) from stands_at7.symm, ← hR1.2.2.2.2.1 t (by omega) 7 (by omega) (by omega)]; exact rel_put hR1 hS (by omega) (by omega)
      generalize uc R1 (8 + t) (zu (R1 (8 + t)) 7 ((R1 (8 + t) 7) + 1)) = R2 at hR2 ⊢
      obtain ⟨⟨r0, r1, r2, r3, r4⟩, rc, rb, ⟨s0, s1, s2, s3⟩, rt, rl⟩ := id hR2
      obtain ⟨g1, g2, g3, g4, g5, g6, g7⟩ := come_facts hW ht4 aps (f (79 + 8 * (t : Int) + 7) + (if blockAt f (f (79 + 8 * (t : Int) + 0)) = 0 then 1 else 0))
      have nn := nextB_rng hW bb
      refine z_aload_n mx mb dX0_comeToBrake_28 rfl 1 rfl ?_
      refine z_aload_n mx mb dX0_comeToBrake_29 rfl 1 rfl ?_
      refine z_get (C := RX0) (T := TX0) (N := 9) mx mb mts (in_X0_comeToBrake_X0) mo hK zgw 0 wR_0 rfl 0 (by decide) (mts _ (List.mem_of_getElem? (i := 3) rfl)) (fun _ h9 => h9) rfl dX0_comeToBrake_30 ?_
      refine z_iload_n mx mb dX0_comeToBrake_33 rfl 0 rfl ?_
      refine z_callP (As := [.int (iZ (blockAt f (f (79 + 8 * (t : Int) + 0))))]) (rest := [.ref (a 0)]) ⟨mx, mb, mml, mo, mts⟩ hK zgw (c_X1_nextBlock l D y a R2 (put (stands f (t : Int)) (t : Int) 7 (f (79 + 8 * (t : Int) + 7) + (if blockAt f (f (79 + 8 * (t : Int) + 0)) = 0 then 1 else 0))) (blockAt f (f (79 + 8 * (t : Int) + 0))) (by omega) (by assumption) (by assumption)) (cwV 1 mts gX0_comeToBrake_X1_nextBlock rfl rfl rfl (by decide +kernel) ⟨Nat.le_of_ble_eq_true rfl, Nat.le_of_ble_eq_true rfl⟩) (fun _ h => h) 1 wR_1 rfl rfl rfl rfl (Nat.le_of_ble_eq_true rfl) ⟨Nat.zero_le _, Nat.zero_le _⟩ dX0_comeToBrake_34 ?_
      refine z_top (show nextB (put (stands f (t : Int)) (t : Int) 7 (f (79 + 8 * (t : Int) + 7) + (if blockAt f (f (79 + 8 * (t : Int) + 0)) = 0 then 1 else 0))) (blockAt f (f (79 + 8 * (t : Int) + 0))) = nextB f (blockAt f (f (79 + 8 * (t : Int) + 0))) from by exact g7 _) ?_
      refine z_callP (As := [.int (iZ (nextB f (blockAt f (f (79 + 8 * (t : Int) + 0)))))]) (rest := []) ⟨mx, mb, mml, mo, mts⟩ hK zgw (c_X0_isFree l D y a R2 (put (stands f (t : Int)) (t : Int) 7 (f (79 + 8 * (t : Int) + 7) + (if blockAt f (f (79 + 8 * (t : Int) + 0)) = 0 then 1 else 0))) (nextB f (blockAt f (f (79 + 8 * (t : Int) + 0)))) (by omega) (by assumption) (by assumption) (by assumption)) (cwV 1 mts gX0_comeToBrake_X0_isFree rfl rfl rfl (by decide +kernel) ⟨Nat.le_of_ble_eq_true rfl, Nat.le_of_ble_eq_true rfl⟩) (fun _ h => h) 0 wR_0 rfl rfl rfl rfl (Nat.le_of_ble_eq_true rfl) ⟨Nat.zero_le _, Nat.zero_le _⟩ dX0_comeToBrake_37 ?_
      refine z_if_ne (tgt := 53) mx mb (b2z_rng _) dX0_comeToBrake_40 (by decide) (fun c40 => ?_) (fun c40 => ?_)
      · skip
        rw [hQ]
        exact z_retV mx mb mr mlk hK R2 (by show Rel _ _; rw [comes_eq hW ht4, if_pos (show isFree (stands f (t : Int)) (nextB f (blockAt f (f (79 + 8 * (t : Int) + 0)))) = true from by rw [← g5]; exact b2z_ne c40)]; exact rel_eq hR2 (zu_id ((g6 _ (by omega)).trans (Int.add_zero _).symm))) rfl dX0_comeToBrake_53
      · skip
        refine z_aload_n mx mb dX0_comeToBrake_43 rfl 1 rfl ?_
        refine z_get (C := RX0) (T := TX0) (N := 9) mx mb mts (in_X0_comeToBrake_X0) mo hK zgw 0 wR_0 rfl 3 (by decide) (mts _ (List.mem_of_getElem? (i := 4) rfl)) (fun _ h9 => h9) rfl dX0_comeToBrake_44 ?_
        refine z_iload_n mx mb dX0_comeToBrake_47 rfl 0 rfl ?_
        refine z_dup2 mx mb dX0_comeToBrake_48 rfl rfl ?_
        refine z_iald mx mb hK zgw 12 0 wR_12 rfl (by decide) (by omega) dX0_comeToBrake_49 ?_
        refine z_top (show (R2 12) (blockAt f (f (79 + 8 * (t : Int) + 0))) = f (71 + blockAt f (f (79 + 8 * (t : Int) + 0))) from by rw [(rb _ bb.1 (by omega)).2]; exact g6 _ (by omega)) ?_
        refine z_iconst mx mb dX0_comeToBrake_50 ?_
        refine z_iadd mx mb dX0_comeToBrake_51 ?_
        refine z_iast mx mb hK 12 0 wR_12 rfl (by decide) (by omega) dX0_comeToBrake_52 (wR y a (uc R2 12 (zu (R2 12) (blockAt f (f (79 + 8 * (t : Int) + 0))) ((f (71 + blockAt f (f (79 + 8 * (t : Int) + 0)))) + 1)))) wR_s12 ?_
        rw [hQ]
        exact z_retV mx mb mr mlk hK (uc R2 12 (zu (R2 12) (blockAt f (f (79 + 8 * (t : Int) + 0))) ((f (71 + blockAt f (f (79 + 8 * (t : Int) + 0)))) + 1))) (by show Rel _ _; rw [comes_eq hW ht4, if_neg (show ¬ isFree (stands f (t : Int)) (nextB f (blockAt f (f (79 + 8 * (t : Int) + 0)))) = true from by rw [← g5]; exact b2z_e c40)]; exact rel_held hR2 g1 (by omega)) rfl dX0_comeToBrake_53
  subst hQ
  subst hw0
  exact hstart

theorem in_X0_run_X0 : ∀ w ∈ wsX00, w ∈ wsX0_run := by decide +kernel
theorem in_X0_run_X1 : ∀ w ∈ wsX10, w ∈ wsX0_run := by decide +kernel
theorem in_X0_run_X3 : ∀ w ∈ wsX30, w ∈ wsX0_run := by decide +kernel
set_option maxRecDepth 100000 in
set_option maxHeartbeats 4000000 in
theorem c_X0_run (l : Launch) (D : va_G) (sz : Nat) (y : Nat → ClassId) (a : Nat → Nat) (R : Nat → Int → Int) (f : Int → Int) (t : Nat) (ht : (t : Int) < f 2 ∧ t < 4) (hm : f (79 + 8 * (t : Int) + 4) = 0) (hJ : Jx f) (kp : Kp f) (hR : Rel f R) : Met l yX0_run wsX0_run ({ frames := 3, cells := 0, slots := 0, locals := 66 } : Room) (zPw D vwCl (zT y) (wR y a R) sz [.ref (a 0), .ref (a (8 + t))]) (va_Qv (fun R' : Nat → Int → Int => Rel (goes f (t : Int)) R') (zB D vwCl (zT y) (wR y a R) sz (fun R' : Nat → Int → Int => wR y a R')) (va_A (wR y a R) sz)) 0 0 (va_A (wR y a R) sz) := by
  refine z_headW (cc := cX0_run) (maxL := 3) (ret := none) [(0, .ref (a 0)), (1, .ref (a (8 + t)))] rfl (Nat.le_of_ble_eq_true rfl) (by decide +kernel) rfl ?_
  intro pp ee ss mm below meth cd mx mb mr mml mo mts mlk hK hname hsz hA
  generalize ([.ref (a 0), .ref (a (8 + t))] : List Value).toArray = args at mts ⊢
  obtain ⟨wst, hw0⟩ : ∃ wst, wst = wR y a R := ⟨_, rfl⟩
  have hA : ∀ q, ss.heap.size ≤ q → va_A wst sz q := by rw [hw0]; exact hA
  obtain ⟨Q, hQ⟩ : ∃ Q, Q = MQ below (va_Qv (fun R' : Nat → Int → Int => Rel (goes f (t : Int)) R') (zB D vwCl (zT y) wst sz (fun R' : Nat → Int → Int => wR y a R')) (va_A wst sz)) args ss 0 0 (va_A wst sz) := ⟨_, rfl⟩
  have hstart : Gz pp l ee ({ frames := 3, cells := 0, slots := 0, locals := 66 } : Room) ss mm args below meth cd 3 0 0 Q (Zw D vwCl (va_A wst sz) ss (wR y a R)) 0 [(0, .ref (a 0)), (1, .ref (a (8 + t)))] [] := by
    obtain ⟨hW, hN, hT⟩ := hJ.f
    obtain ⟨kA, hG, hS⟩ := id kp
    obtain ⟨⟨r0, r1, r2, r3, r4⟩, rc, rb, ⟨s0, s1, s2, s3⟩, rt, rl⟩ := id hR
    obtain ⟨w0, w1, w2, w3, w4, w5, w6⟩ := id hW
    have et : ∀ k : Int, 0 ≤ k → k < 8 → R (8 + t) k = f (79 + 8 * (t : Int) + k) := rt t ht.1
    have q0 := w6 (t : Int) (by omega) (by omega)
    have ht4 : 0 ≤ (t : Int) ∧ (t : Int) < 4 := by omega
    obtain ⟨T1, T2, T3, T5, T7⟩ := hT (t : Int) ht4.1 ht4.2
    have b9 : 0 ≤ by' f (t : Int) ∧ by' f (t : Int) ≤ 99 := (by obtain ⟨_, _, _, h9, _⟩ := hJ; exact by_rng h9 ht4)
    have e1 := et 1 (by omega) (by omega)
    have k1 := w4 (f (79 + 8 * (t : Int) + 0)) (by omega) (by omega)
    have e2 := rc (f (79 + 8 * (t : Int) + 0)) q0.1.1 q0.1.2
    refine z_aload_n mx mb dX0_run_0 rfl 1 rfl ?_
    refine z_dup mx mb dX0_run_1 rfl ?_
    refine z_get (C := RX3) (T := TX3) (N := 8) mx mb mts (in_X0_run_X3) mo hK zgw (8 + t) (wR_t (by omega)) rfl 2 (by decide) (mts _ (List.mem_of_getElem? (i := 1) rfl)) (fun _ h9 => h9) rfl dX0_run_2 ?_
    refine z_aload_n mx mb dX0_run_5 rfl 0 rfl ?_
    refine z_get (C := RX0) (T := TX0) (N := 9) mx mb mts (in_X0_run_X0) mo hK zgw 0 wR_0 rfl 0 (by decide) (mts _ (List.mem_of_getElem? (i := 2) rfl)) (fun _ h9 => h9) rfl dX0_run_6 ?_
    refine z_get (C := RX1) (T := TX1) (N := 6) mx mb mts (in_X0_run_X1) mo hK zgw 1 wR_1 rfl 1 (by decide) (mts _ (List.mem_of_getElem? (i := 3) rfl)) (fun _ h9 => h9) rfl dX0_run_9 ?_
    refine z_aload_n mx mb dX0_run_12 rfl 1 rfl ?_
    refine z_get (C := RX3) (T := TX3) (N := 8) mx mb mts (in_X0_run_X3) mo hK zgw (8 + t) (wR_t (by omega)) rfl 0 (by decide) (mts _ (List.mem_of_getElem? (i := 4) rfl)) (fun _ h9 => h9) rfl dX0_run_13 ?_
    refine z_top (show R (8 + t) 0 = f (79 + 8 * (t : Int) + 0) from by exact et 0 (by omega) (by omega)) ?_
    refine z_iald mx mb hK zgw 3 0 wR_3 rfl (by decide) (by omega) dX0_run_16 ?_
    refine z_top (show (R 3) (f (79 + 8 * (t : Int) + 0)) = f (41 + f (79 + 8 * (t : Int) + 0)) from by exact e2.2.1) ?_
    refine z_iconst mx mb dX0_run_17 ?_
    refine z_icmp_ne (tgt := 25) mx mb (by omega) (by omega) dX0_run_18 (by decide) (fun c18 => ?_) (fun c18 => ?_)
    · skip
      refine z_aload_n mx mb dX0_run_25 rfl 1 rfl ?_
      refine z_callP (As := []) (rest := [.int (iZ (R (8 + t) 2)), .ref (a (8 + t))]) ⟨mx, mb, mml, mo, mts⟩ hK zgw (c_X3_speed l D y (a (8 + t)) (R (8 + t))  (by omega)) (cwV 0 mts gX0_run_X3_speed rfl rfl rfl (by decide +kernel) ⟨Nat.le_of_ble_eq_true rfl, Nat.le_of_ble_eq_true rfl⟩) (wT_in (by omega)) (8 + t) (wR_t (by omega)) rfl rfl rfl rfl (Nat.le_of_ble_eq_true rfl) ⟨Nat.zero_le _, Nat.zero_le _⟩ dX0_run_26 ?_
      refine z_top (show root ((R (8 + t)) 1) = by' f (t : Int) from by unfold by'; rw [if_neg (by omega), e1]) ?_
      refine z_iadd mx mb dX0_run_29 ?_
      refine z_top (show (R (8 + t) 2) + (by' f (t : Int)) = f (79 + 8 * (t : Int) + 2) + by' f (t : Int) from by rw [et 2 (by omega) (by omega)]) ?_
      refine z_put (ty := .int) (C := RX3) (T := TX3) (N := 8) mx mb mts (in_X0_run_X3) tyX3_ok nmX3 mo hK (8 + t) (wR_t (by omega)) rfl 2 (by decide) (mts _ (List.mem_of_getElem? (i := 1) rfl)) (fun _ h9 => h9) rfl (by decide +kernel) rfl rfl (Nat.le_of_ble_eq_true rfl) dX0_run_30 (wR y a (uc R (8 + t) (zu (R (8 + t)) 2 (f (79 + 8 * (t : Int) + 2) + by' f (t : Int))))) (wR_stk (by omega) 2 (by decide)) ?_
      have hR1 : Rel (put f (t : Int) 2 (f (79 + 8 * (t : Int) + 2) + by' f (t : Int))) (uc R (8 + t) (zu (R (8 + t)) 2 (f (79 + 8 * (t : Int) + 2) + by' f (t : Int)))) := by exact rel_put hR hW ht.1 (by omega)
      generalize uc R (8 + t) (zu (R (8 + t)) 2 (f (79 + 8 * (t : Int) + 2) + by' f (t : Int))) = R1 at hR1 ⊢
      obtain ⟨⟨r0, r1, r2, r3, r4⟩, rc, rb, ⟨s0, s1, s2, s3⟩, rt, rl⟩ := id hR1
      refine z_aload_n mx mb dX0_run_33 rfl 1 rfl ?_
      refine z_get (C := RX3) (T := TX3) (N := 8) mx mb mts (in_X0_run_X3) mo hK zgw (8 + t) (wR_t (by omega)) rfl 2 (by decide) (mts _ (List.mem_of_getElem? (i := 1) rfl)) (fun _ h9 => h9) rfl dX0_run_34 ?_
      refine z_top (show R1 (8 + t) 2 = f (79 + 8 * (t : Int) + 2) + by' f (t : Int) from by rw [rt t (by rw [put_n (by omega)]; exact ht.1) 2 (by omega) (by omega), put_s]) ?_
      refine z_bipush mx mb dX0_run_37 (by decide +kernel) ?_
      refine z_icmp_ge (tgt := 43) mx mb (by omega) (by omega) dX0_run_39 (by decide) (fun c39 => ?_) (fun c39 => ?_)
      · skip
        refine z_aload_n mx mb dX0_run_43 rfl 1 rfl ?_
        refine z_dup mx mb dX0_run_44 rfl ?_
        refine z_get (C := RX3) (T := TX3) (N := 8) mx mb mts (in_X0_run_X3) mo hK zgw (8 + t) (wR_t (by omega)) rfl 2 (by decide) (mts _ (List.mem_of_getElem? (i := 1) rfl)) (fun _ h9 => h9) rfl dX0_run_45 ?_
        refine z_top (show R1 (8 + t) 2 = f (79 + 8 * (t : Int) + 2) + by' f (t : Int) from by rw [rt t (by rw [put_n (by omega)]; exact ht.1) 2 (by omega) (by omega), put_s]) ?_
        refine z_bipush mx mb dX0_run_48 (by decide +kernel) ?_
        refine z_isub mx mb dX0_run_50 ?_
        refine z_put (ty := .int) (C := RX3) (T := TX3) (N := 8) mx mb mts (in_X0_run_X3) tyX3_ok nmX3 mo hK (8 + t) (wR_t (by omega)) rfl 2 (by decide) (mts _ (List.mem_of_getElem? (i := 1) rfl)) (fun _ h9 => h9) rfl (by decide +kernel) rfl rfl (Nat.le_of_ble_eq_true rfl) dX0_run_51 (wR y a (uc R1 (8 + t) (zu (R1 (8 + t)) 2 ((f (79 + 8 * (t : Int) + 2) + by' f (t : Int)) - 100)))) (wR_stk (by omega) 2 (by decide)) ?_
        have hR2 : Rel (put f (t : Int) 2 (f (79 + 8 * (t : Int) + 2) + by' f (t : Int) - 100)) (uc R1 (8 + t) (zu (R1 (8 + t)) 2 ((f (79 + 8 * (t : Int) + 2) + by' f (t : Int)) - 100))) := by have q := rel_put (w := 2) (v := f (79 + 8 * (t : Int) + 2) + by' f (t : Int) - 100) hR1 (Wf_put hW ht4 (by omega) (by omega)) (by rw [put_n (by omega)]; exact ht.1) (by omega); rw [put_put] at q; exact q
        generalize uc R1 (8 + t) (zu (R1 (8 + t)) 2 ((f (79 + 8 * (t : Int) + 2) + by' f (t : Int)) - 100)) = R2 at hR2 ⊢
        obtain ⟨f2, ef2⟩ : ∃ z, z = put f (t : Int) 2 (f (79 + 8 * (t : Int) + 2) + by' f (t : Int) - 100) := ⟨_, rfl⟩
        rw [← ef2] at hR2
        obtain ⟨⟨r0, r1, r2, r3, r4⟩, rc, rb, ⟨s0, s1, s2, s3⟩, rt, rl⟩ := id hR2
        have jx2 : Jx f2 := (by rw [ef2]; exact hJ.put2 ht4 (by omega))
        have kp2 : Kp f2 := (by rw [ef2]; exact Kp_put kp hJ.y ht4 (by omega) (by omega) (by omega) (by omega))
        have o2 : ∀ i : Int, i ≠ 79 + 8 * (t : Int) + 2 → f2 i = f i := fun i hi => (by rw [ef2]; exact put_n hi)
        have m2 : f2 (79 + 8 * (t : Int) + 4) = 0 := (by rw [o2 _ (by omega)]; exact hm)
        have ht2 : (t : Int) < f2 2 ∧ t < 4 := (by rw [o2 2 (by omega)]; exact ht)
        obtain ⟨hW2, hN2, hT2⟩ := jx2.f
        obtain ⟨U1, U2, U3, U5, U7⟩ := hT2 (t : Int) ht4.1 ht4.2
        have q2 := hW2.2.2.2.2.2.2 (t : Int) ht4.1 ht4.2
        have n42 := hN2.2.1
        have et2 : ∀ k : Int, 0 ≤ k → k < 8 → R2 (8 + t) k = f2 (79 + 8 * (t : Int) + k) := fun k => rt t ht2.1 k
        have dr : 0 ≤ drag f2 (t : Int) ∧ drag f2 (t : Int) ≤ 30 := (by unfold drag; split <;> omega)
        have ac := after_rng hW2 q2.1
        obtain ⟨v0, v1, v2, v3, v4, v5, v6⟩ := id hW2
        have ka := v4 (after f2 (f2 (79 + 8 * (t : Int) + 0))) ac.1 (by omega)
        refine z_aload_n mx mb dX0_run_54 rfl 0 rfl ?_
        refine z_get (C := RX0) (T := TX0) (N := 9) mx mb mts (in_X0_run_X0) mo hK zgw 0 wR_0 rfl 0 (by decide) (mts _ (List.mem_of_getElem? (i := 2) rfl)) (fun _ h9 => h9) rfl dX0_run_55 ?_
        refine z_aload_n mx mb dX0_run_58 rfl 1 rfl ?_
        refine z_get (C := RX3) (T := TX3) (N := 8) mx mb mts (in_X0_run_X3) mo hK zgw (8 + t) (wR_t (by omega)) rfl 0 (by decide) (mts _ (List.mem_of_getElem? (i := 4) rfl)) (fun _ h9 => h9) rfl dX0_run_59 ?_
        refine z_top (show R2 (8 + t) 0 = f2 (79 + 8 * (t : Int) + 0) from by exact et2 0 (by omega) (by omega)) ?_
        refine z_aload_n mx mb dX0_run_62 rfl 1 rfl ?_
        refine z_get (C := RX3) (T := TX3) (N := 8) mx mb mts (in_X0_run_X3) mo hK zgw (8 + t) (wR_t (by omega)) rfl 1 (by decide) (mts _ (List.mem_of_getElem? (i := 5) rfl)) (fun _ h9 => h9) rfl dX0_run_63 ?_
        refine z_top (show R2 (8 + t) 1 = f2 (79 + 8 * (t : Int) + 1) from by exact et2 1 (by omega) (by omega)) ?_
        refine z_aload_n mx mb dX0_run_66 rfl 0 rfl ?_
        refine z_aload_n mx mb dX0_run_67 rfl 1 rfl ?_
        refine z_callP (As := [.ref (a (8 + t))]) (rest := [.int (iZ (f2 (79 + 8 * (t : Int) + 1))), .int (iZ (f2 (79 + 8 * (t : Int) + 0))), .ref (a 1)]) ⟨mx, mb, mml, mo, mts⟩ hK zgw (c_X0_dragOf l D y a R2 f2 t (by omega) (by omega) (by assumption) (by assumption)) (cwV 1 mts gX0_run_X0_dragOf rfl rfl rfl (by decide +kernel) ⟨Nat.le_of_ble_eq_true rfl, Nat.le_of_ble_eq_true rfl⟩) (fun _ h => h) 0 wR_0 rfl rfl rfl rfl (Nat.le_of_ble_eq_true rfl) ⟨Nat.zero_le _, Nat.zero_le _⟩ dX0_run_68 ?_
        refine z_callP (As := [.int (iZ (f2 (79 + 8 * (t : Int) + 0))), .int (iZ (f2 (79 + 8 * (t : Int) + 1))), .int (iZ (drag f2 (t : Int)))]) (rest := []) ⟨mx, mb, mml, mo, mts⟩ hK zgw (c_X1_squareBehind l D y a R2 f2 (f2 (79 + 8 * (t : Int) + 0)) (f2 (79 + 8 * (t : Int) + 1)) (drag f2 (t : Int)) (by omega) (by omega) (by omega) (by assumption) (by assumption)) (cwV 3 mts gX0_run_X1_squareBehind rfl rfl rfl (by decide +kernel) ⟨Nat.le_of_ble_eq_true rfl, Nat.le_of_ble_eq_true rfl⟩) (fun _ h => h) 1 wR_1 rfl rfl rfl rfl (Nat.le_of_ble_eq_true rfl) ⟨Nat.zero_le _, Nat.zero_le _⟩ dX0_run_71 ?_
        obtain ⟨sq, esq⟩ : ∃ z, z = squareOn f2 (f2 (79 + 8 * (t : Int) + 0)) (after f2 (f2 (79 + 8 * (t : Int) + 0))) (f2 (79 + 8 * (t : Int) + 1)) (drag f2 (t : Int)) := ⟨_, rfl⟩
        have sq1 := squareOn_up (sq := f2 (79 + 8 * (t : Int) + 1)) (d := drag f2 (t : Int)) hW2 (show 0 ≤ f2 (79 + 8 * (t : Int) + 0) ∧ f2 (79 + 8 * (t : Int) + 0) < 30 by omega) (show 0 ≤ after f2 (f2 (79 + 8 * (t : Int) + 0)) ∧ after f2 (f2 (79 + 8 * (t : Int) + 0)) < 30 by omega)
        have sq2 := sq1.2 (by omega) (by omega)
        refine z_top (show squareOn f2 (f2 (79 + 8 * (t : Int) + 0)) (after f2 (f2 (79 + 8 * (t : Int) + 0))) (f2 (79 + 8 * (t : Int) + 1)) (drag f2 (t : Int)) = sq from by exact esq.symm) ?_
        refine z_istore_n mx mb dX0_run_74 rfl (by decide) [(2, .int (iZ sq)), (0, .ref (a 0)), (1, .ref (a (8 + t)))] rfl ?_
        refine z_iload_n mx mb dX0_run_75 rfl 0 rfl ?_
        refine z_if_ge (tgt := 84) mx mb (by omega) dX0_run_76 (by decide) (fun c76 => ?_) (fun c76 => ?_)
        · skip
          refine z_aload_n mx mb dX0_run_84 rfl 2 rfl ?_
          refine z_aload_n mx mb dX0_run_85 rfl 1 rfl ?_
          refine z_get (C := RX0) (T := TX0) (N := 9) mx mb mts (in_X0_run_X0) mo hK zgw 0 wR_0 rfl 0 (by decide) (mts _ (List.mem_of_getElem? (i := 2) rfl)) (fun _ h9 => h9) rfl dX0_run_86 ?_
          refine z_aload_n mx mb dX0_run_89 rfl 2 rfl ?_
          refine z_get (C := RX3) (T := TX3) (N := 8) mx mb mts (in_X0_run_X3) mo hK zgw (8 + t) (wR_t (by omega)) rfl 0 (by decide) (mts _ (List.mem_of_getElem? (i := 4) rfl)) (fun _ h9 => h9) rfl dX0_run_90 ?_
          refine z_top (show R2 (8 + t) 0 = f2 (79 + 8 * (t : Int) + 0) from by exact et2 0 (by omega) (by omega)) ?_
          refine z_callP (As := [.int (iZ (f2 (79 + 8 * (t : Int) + 0)))]) (rest := [.ref (a (8 + t))]) ⟨mx, mb, mml, mo, mts⟩ hK zgw (c_X1_nextCell l D y a R2 f2 (f2 (79 + 8 * (t : Int) + 0)) (by omega) (by assumption) (by assumption)) (cwV 1 mts gX0_run_X1_nextCell rfl rfl rfl (by decide +kernel) ⟨Nat.le_of_ble_eq_true rfl, Nat.le_of_ble_eq_true rfl⟩) (fun _ h => h) 1 wR_1 rfl rfl rfl rfl (Nat.le_of_ble_eq_true rfl) ⟨Nat.zero_le _, Nat.zero_le _⟩ dX0_run_93 ?_
          refine z_iload_n mx mb dX0_run_96 rfl 0 rfl ?_
          refine z_callT (t := t) (As := [.int (iZ (after f2 (f2 (79 + 8 * (t : Int) + 0)))), .int (iZ sq)]) (rest := []) (by omega) ⟨mx, mb, mml, mo, mts⟩ hK hA (fun sz => c_X3_moveTo l D sz y (a (8 + t)) (R2 (8 + t)) (after f2 (f2 (79 + 8 * (t : Int) + 0))) sq ) (cwV 2 mts gX0_run_X3_moveTo rfl rfl rfl (by decide +kernel) ⟨Nat.le_of_ble_eq_true rfl, Nat.le_of_ble_eq_true rfl⟩) rfl rfl (Nat.le_of_ble_eq_true rfl) ⟨Nat.zero_le _, Nat.zero_le _⟩ dX0_run_97 ?_
          have hR3 : Rel (came f2 (t : Int) sq) (uc R2 (8 + t) (zu (zu (zu (R2 (8 + t)) 0 (after f2 (f2 (79 + 8 * (t : Int) + 0)))) 1 sq) 6 ((R2 (8 + t)) 6 + 1))) := by exact rel_came hR2 hW2 ht2.1
          generalize uc R2 (8 + t) (zu (zu (zu (R2 (8 + t)) 0 (after f2 (f2 (79 + 8 * (t : Int) + 0)))) 1 sq) 6 ((R2 (8 + t)) 6 + 1)) = R3 at hR3 ⊢
          obtain ⟨f3, ef3⟩ : ∃ z, z = came f2 (t : Int) sq := ⟨_, rfl⟩
          rw [← ef3] at hR3
          obtain ⟨⟨r0, r1, r2, r3, r4⟩, rc, rb, ⟨s0, s1, s2, s3⟩, rt, rl⟩ := id hR3
          have jx3 : Jx f3 := (by rw [ef3]; exact jx2.came ht4 (by omega))
          obtain ⟨hW3, hN3, hT3⟩ := jx3.f
          have o3 : ∀ i : Int, i < 79 → f3 i = f2 i := fun i hi => (by rw [ef3]; exact came_2 ht4.1 hi)
          have ht3 : (t : Int) < f3 2 ∧ t < 4 := (by rw [o3 2 (by omega)]; exact ht2)
          have o30 := o3 0 (by omega)
          have c3c : f3 (79 + 8 * (t : Int) + 0) = after f2 (f2 (79 + 8 * (t : Int) + 0)) := (by rw [ef3, came_cm (Or.inl rfl), if_pos ⟨rfl, rfl⟩])
          refine z_aload_n mx mb dX0_run_100 rfl 1 rfl ?_
          refine z_get (C := RX0) (T := TX0) (N := 9) mx mb mts (in_X0_run_X0) mo hK zgw 0 wR_0 rfl 0 (by decide) (mts _ (List.mem_of_getElem? (i := 2) rfl)) (fun _ h9 => h9) rfl dX0_run_101 ?_
          refine z_get (C := RX1) (T := TX1) (N := 6) mx mb mts (in_X0_run_X1) mo hK zgw 1 wR_1 rfl 1 (by decide) (mts _ (List.mem_of_getElem? (i := 3) rfl)) (fun _ h9 => h9) rfl dX0_run_104 ?_
          refine z_aload_n mx mb dX0_run_107 rfl 2 rfl ?_
          refine z_get (C := RX3) (T := TX3) (N := 8) mx mb mts (in_X0_run_X3) mo hK zgw (8 + t) (wR_t (by omega)) rfl 0 (by decide) (mts _ (List.mem_of_getElem? (i := 4) rfl)) (fun _ h9 => h9) rfl dX0_run_108 ?_
          refine z_top (show R3 (8 + t) 0 = after f2 (f2 (79 + 8 * (t : Int) + 0)) from by rw [rt t ht3.1 0 (by omega) (by omega)]; exact c3c) ?_
          refine z_iald mx mb hK zgw 3 0 wR_3 rfl (by decide) (by omega) dX0_run_111 ?_
          refine z_top (show (R3 3) (after f2 (f2 (79 + 8 * (t : Int) + 0))) = f2 (41 + after f2 (f2 (79 + 8 * (t : Int) + 0))) from by rw [(rc _ ac.1 (by omega)).2.1]; exact o3 _ (by omega)) ?_
          refine z_iconst mx mb dX0_run_112 ?_
          refine z_icmp_ne (tgt := 124) mx mb (by omega) (by omega) dX0_run_113 (by decide) (fun c113 => ?_) (fun c113 => ?_)
          · skip
            refine z_aload_n mx mb dX0_run_124 rfl 1 rfl ?_
            refine z_get (C := RX0) (T := TX0) (N := 9) mx mb mts (in_X0_run_X0) mo hK zgw 0 wR_0 rfl 0 (by decide) (mts _ (List.mem_of_getElem? (i := 2) rfl)) (fun _ h9 => h9) rfl dX0_run_125 ?_
            refine z_aload_n mx mb dX0_run_128 rfl 2 rfl ?_
            refine z_get (C := RX3) (T := TX3) (N := 8) mx mb mts (in_X0_run_X3) mo hK zgw (8 + t) (wR_t (by omega)) rfl 0 (by decide) (mts _ (List.mem_of_getElem? (i := 4) rfl)) (fun _ h9 => h9) rfl dX0_run_129 ?_
            refine z_top (show R3 (8 + t) 0 = after f2 (f2 (79 + 8 * (t : Int) + 0)) from by rw [rt t ht3.1 0 (by omega) (by omega)]; exact c3c) ?_
            refine z_iload_n mx mb dX0_run_132 rfl 0 rfl ?_
            refine z_callP (As := [.int (iZ (after f2 (f2 (79 + 8 * (t : Int) + 0)))), .int (iZ sq)]) (rest := []) ⟨mx, mb, mml, mo, mts⟩ hK zgw (c_X1_isValley l D y a R3 f3 (after f2 (f2 (79 + 8 * (t : Int) + 0))) sq (by omega) (by omega) (by assumption) (by assumption)) (cwV 2 mts gX0_run_X1_isValley rfl rfl rfl (by decide +kernel) ⟨Nat.le_of_ble_eq_true rfl, Nat.le_of_ble_eq_true rfl⟩) (fun _ h => h) 1 wR_1 rfl rfl rfl rfl (Nat.le_of_ble_eq_true rfl) ⟨Nat.zero_le _, Nat.zero_le _⟩ dX0_run_133 ?_
            refine z_if_eq (tgt := 143) mx mb (b2z_rng _) dX0_run_136 (by decide) (fun c136 => ?_) (fun c136 => ?_)
            · skip
              rw [hQ]
              exact z_retV mx mb mr mlk hK R3 (by show Rel _ _; unfold goes; rw [if_neg (by omega), put_put, ← ef2]; unfold moves; rw [← esq, if_neg (by omega), if_neg (by omega), if_neg (show ¬ (sq = 0 ∧ ¬ f2 (41 + after f2 (f2 (79 + 8 * (t : Int) + 0))) = 1) from fun z => b2z_e c136 ⟨z.1, by rw [o3 _ (by omega)]; omega⟩), ← ef3]; exact hR3) rfl dX0_run_143
            · skip
              refine z_aload_n mx mb dX0_run_139 rfl 2 rfl ?_
              refine z_callT (t := t) (As := []) (rest := []) (by omega) ⟨mx, mb, mml, mo, mts⟩ hK hA (fun sz => c_X3_lie l D sz y (a (8 + t)) (R3 (8 + t))  ) (cwV 0 mts gX0_run_X3_lie rfl rfl rfl (by decide +kernel) ⟨Nat.le_of_ble_eq_true rfl, Nat.le_of_ble_eq_true rfl⟩) rfl rfl (Nat.le_of_ble_eq_true rfl) ⟨Nat.zero_le _, Nat.zero_le _⟩ dX0_run_140 ?_
              rw [hQ]
              exact z_retV mx mb mr mlk hK (uc R3 (8 + t) (zu (zu (zu (R3 (8 + t)) 1 0) 2 0) 4 2)) (by show Rel _ _; unfold goes; rw [if_neg (by omega), put_put, ← ef2]; unfold moves; rw [← esq, if_neg (by omega), if_neg (by omega), if_pos (show sq = 0 ∧ ¬ f2 (41 + after f2 (f2 (79 + 8 * (t : Int) + 0))) = 1 from ⟨(b2z_ne c136).1, by have z := (b2z_ne c136).2; rw [o3 _ (by omega)] at z; omega⟩), ← ef3]; exact rel_lie hR3 hW3 ht3.1) rfl dX0_run_143
          · skip
            have ap3 : Ap (stands f3 (t : Int)) := (by rw [ef3]; exact Ap_stand_of kp2 jx2 ⟨ht4.1, ht2.1⟩ m2 esq (by omega) (by omega))
            refine z_aload_n mx mb dX0_run_116 rfl 1 rfl ?_
            refine z_aload_n mx mb dX0_run_117 rfl 2 rfl ?_
            refine z_callV0 (As := [.ref (a (8 + t))]) (rest := []) ⟨mx, mb, mml, mo, mts⟩ hK hA (fun sz => c_X0_comeToBrake l D sz y a R3 f3 t (by omega) (by assumption) (by assumption) (by assumption)) (cwV 1 mts gX0_run_X0_comeToBrake rfl rfl rfl (by decide +kernel) ⟨Nat.le_of_ble_eq_true rfl, Nat.le_of_ble_eq_true rfl⟩) 0 wR_0 rfl rfl rfl rfl (Nat.le_of_ble_eq_true rfl) ⟨Nat.zero_le _, Nat.zero_le _⟩ dX0_run_118 (fun u118 hu118 => ?_)
            have hu118 : Rel (comes f3 (t : Int)) u118 := hu118
            show Gz pp l ee ({ frames := 3, cells := 0, slots := 0, locals := 66 } : Room) ss mm args below meth cd 3 0 0 Q (Zw D vwCl (va_A wst sz) ss (wR y a u118)) 121 [(2, .int (iZ sq)), (0, .ref (a 0)), (1, .ref (a (8 + t)))] []
            refine z_goto (tgt := 143) mx mb dX0_run_121 (by decide) ?_
            rw [hQ]
            exact z_retV mx mb mr mlk hK u118 (by show Rel _ _; unfold goes; rw [if_neg (by omega), put_put, ← ef2]; unfold moves; rw [← esq, if_neg (by omega), if_pos (by omega), ← ef3]; assumption) rfl dX0_run_143
        · skip
          refine z_aload_n mx mb dX0_run_79 rfl 2 rfl ?_
          refine z_callT (t := t) (As := []) (rest := []) (by omega) ⟨mx, mb, mml, mo, mts⟩ hK hA (fun sz => c_X3_lie l D sz y (a (8 + t)) (R2 (8 + t))  ) (cwV 0 mts gX0_run_X3_lie rfl rfl rfl (by decide +kernel) ⟨Nat.le_of_ble_eq_true rfl, Nat.le_of_ble_eq_true rfl⟩) rfl rfl (Nat.le_of_ble_eq_true rfl) ⟨Nat.zero_le _, Nat.zero_le _⟩ dX0_run_80 ?_
          have hR3 : Rel (lies f2 (t : Int)) (uc R2 (8 + t) (zu (zu (zu (R2 (8 + t)) 1 0) 2 0) 4 2)) := by exact rel_lie hR2 hW2 ht2.1
          generalize uc R2 (8 + t) (zu (zu (zu (R2 (8 + t)) 1 0) 2 0) 4 2) = R3 at hR3 ⊢
          obtain ⟨⟨r0, r1, r2, r3, r4⟩, rc, rb, ⟨s0, s1, s2, s3⟩, rt, rl⟩ := id hR3
          rw [hQ]
          exact z_retV mx mb mr mlk hK R3 (by show Rel _ _; unfold goes; rw [if_neg (by omega), put_put, ← ef2]; unfold moves; rw [← esq, if_pos (by omega)]; exact hR3) rfl dX0_run_83
      · skip
        rw [hQ]
        exact z_retV mx mb mr mlk hK R1 (by show Rel _ _; unfold goes; rw [if_pos (by omega)]; exact hR1) rfl dX0_run_42
    · skip
      refine z_iconst mx mb dX0_run_21 ?_
      refine z_goto (tgt := 29) mx mb dX0_run_22 (by decide) ?_
      refine z_top (show 5 = by' f (t : Int) from by unfold by'; rw [if_pos (by omega)]) ?_
      refine z_iadd mx mb dX0_run_29 ?_
      refine z_top (show (R (8 + t) 2) + (by' f (t : Int)) = f (79 + 8 * (t : Int) + 2) + by' f (t : Int) from by rw [et 2 (by omega) (by omega)]) ?_
      refine z_put (ty := .int) (C := RX3) (T := TX3) (N := 8) mx mb mts (in_X0_run_X3) tyX3_ok nmX3 mo hK (8 + t) (wR_t (by omega)) rfl 2 (by decide) (mts _ (List.mem_of_getElem? (i := 1) rfl)) (fun _ h9 => h9) rfl (by decide +kernel) rfl rfl (Nat.le_of_ble_eq_true rfl) dX0_run_30 (wR y a (uc R (8 + t) (zu (R (8 + t)) 2 (f (79 + 8 * (t : Int) + 2) + by' f (t : Int))))) (wR_stk (by omega) 2 (by decide)) ?_
      have hR1 : Rel (put f (t : Int) 2 (f (79 + 8 * (t : Int) + 2) + by' f (t : Int))) (uc R (8 + t) (zu (R (8 + t)) 2 (f (79 + 8 * (t : Int) + 2) + by' f (t : Int)))) := by exact rel_put hR hW ht.1 (by omega)
      generalize uc R (8 + t) (zu (R (8 + t)) 2 (f (79 + 8 * (t : Int) + 2) + by' f (t : Int))) = R1 at hR1 ⊢
      obtain ⟨⟨r0, r1, r2, r3, r4⟩, rc, rb, ⟨s0, s1, s2, s3⟩, rt, rl⟩ := id hR1
      refine z_aload_n mx mb dX0_run_33 rfl 1 rfl ?_
      refine z_get (C := RX3) (T := TX3) (N := 8) mx mb mts (in_X0_run_X3) mo hK zgw (8 + t) (wR_t (by omega)) rfl 2 (by decide) (mts _ (List.mem_of_getElem? (i := 1) rfl)) (fun _ h9 => h9) rfl dX0_run_34 ?_
      refine z_top (show R1 (8 + t) 2 = f (79 + 8 * (t : Int) + 2) + by' f (t : Int) from by rw [rt t (by rw [put_n (by omega)]; exact ht.1) 2 (by omega) (by omega), put_s]) ?_
      refine z_bipush mx mb dX0_run_37 (by decide +kernel) ?_
      refine z_icmp_ge (tgt := 43) mx mb (by omega) (by omega) dX0_run_39 (by decide) (fun c39 => ?_) (fun c39 => ?_)
      · skip
        refine z_aload_n mx mb dX0_run_43 rfl 1 rfl ?_
        refine z_dup mx mb dX0_run_44 rfl ?_
        refine z_get (C := RX3) (T := TX3) (N := 8) mx mb mts (in_X0_run_X3) mo hK zgw (8 + t) (wR_t (by omega)) rfl 2 (by decide) (mts _ (List.mem_of_getElem? (i := 1) rfl)) (fun _ h9 => h9) rfl dX0_run_45 ?_
        refine z_top (show R1 (8 + t) 2 = f (79 + 8 * (t : Int) + 2) + by' f (t : Int) from by rw [rt t (by rw [put_n (by omega)]; exact ht.1) 2 (by omega) (by omega), put_s]) ?_
        refine z_bipush mx mb dX0_run_48 (by decide +kernel) ?_
        refine z_isub mx mb dX0_run_50 ?_
        refine z_put (ty := .int) (C := RX3) (T := TX3) (N := 8) mx mb mts (in_X0_run_X3) tyX3_ok nmX3 mo hK (8 + t) (wR_t (by omega)) rfl 2 (by decide) (mts _ (List.mem_of_getElem? (i := 1) rfl)) (fun _ h9 => h9) rfl (by decide +kernel) rfl rfl (Nat.le_of_ble_eq_true rfl) dX0_run_51 (wR y a (uc R1 (8 + t) (zu (R1 (8 + t)) 2 ((f (79 + 8 * (t : Int) + 2) + by' f (t : Int)) - 100)))) (wR_stk (by omega) 2 (by decide)) ?_
        have hR2 : Rel (put f (t : Int) 2 (f (79 + 8 * (t : Int) + 2) + by' f (t : Int) - 100)) (uc R1 (8 + t) (zu (R1 (8 + t)) 2 ((f (79 + 8 * (t : Int) + 2) + by' f (t : Int)) - 100))) := by have q := rel_put (w := 2) (v := f (79 + 8 * (t : Int) + 2) + by' f (t : Int) - 100) hR1 (Wf_put hW ht4 (by omega) (by omega)) (by rw [put_n (by omega)]; exact ht.1) (by omega); rw [put_put] at q; exact q
        generalize uc R1 (8 + t) (zu (R1 (8 + t)) 2 ((f (79 + 8 * (t : Int) + 2) + by' f (t : Int)) - 100)) = R2 at hR2 ⊢
        obtain ⟨f2, ef2⟩ : ∃ z, z = put f (t : Int) 2 (f (79 + 8 * (t : Int) + 2) + by' f (t : Int) - 100) := ⟨_, rfl⟩
        rw [← ef2] at hR2
        obtain ⟨⟨r0, r1, r2, r3, r4⟩, rc, rb, ⟨s0, s1, s2, s3⟩, rt, rl⟩ := id hR2
        have jx2 : Jx f2 := (by rw [ef2]; exact hJ.put2 ht4 (by omega))
        have kp2 : Kp f2 := (by rw [ef2]; exact Kp_put kp hJ.y ht4 (by omega) (by omega) (by omega) (by omega))
        have o2 : ∀ i : Int, i ≠ 79 + 8 * (t : Int) + 2 → f2 i = f i := fun i hi => (by rw [ef2]; exact put_n hi)
        have m2 : f2 (79 + 8 * (t : Int) + 4) = 0 := (by rw [o2 _ (by omega)]; exact hm)
        have ht2 : (t : Int) < f2 2 ∧ t < 4 := (by rw [o2 2 (by omega)]; exact ht)
        obtain ⟨hW2, hN2, hT2⟩ := jx2.f
        obtain ⟨U1, U2, U3, U5, U7⟩ := hT2 (t : Int) ht4.1 ht4.2
        have q2 := hW2.2.2.2.2.2.2 (t : Int) ht4.1 ht4.2
        have n42 := hN2.2.1
        have et2 : ∀ k : Int, 0 ≤ k → k < 8 → R2 (8 + t) k = f2 (79 + 8 * (t : Int) + k) := fun k => rt t ht2.1 k
        have dr : 0 ≤ drag f2 (t : Int) ∧ drag f2 (t : Int) ≤ 30 := (by unfold drag; split <;> omega)
        have ac := after_rng hW2 q2.1
        obtain ⟨v0, v1, v2, v3, v4, v5, v6⟩ := id hW2
        have ka := v4 (after f2 (f2 (79 + 8 * (t : Int) + 0))) ac.1 (by omega)
        refine z_aload_n mx mb dX0_run_54 rfl 0 rfl ?_
        refine z_get (C := RX0) (T := TX0) (N := 9) mx mb mts (in_X0_run_X0) mo hK zgw 0 wR_0 rfl 0 (by decide) (mts _ (List.mem_of_getElem? (i := 2) rfl)) (fun _ h9 => h9) rfl dX0_run_55 ?_
        refine z_aload_n mx mb dX0_run_58 rfl 1 rfl ?_
        refine z_get (C := RX3) (T := TX3) (N := 8) mx mb mts (in_X0_run_X3) mo hK zgw (8 + t) (wR_t (by omega)) rfl 0 (by decide) (mts _ (List.mem_of_getElem? (i := 4) rfl)) (fun _ h9 => h9) rfl dX0_run_59 ?_
        refine z_top (show R2 (8 + t) 0 = f2 (79 + 8 * (t : Int) + 0) from by exact et2 0 (by omega) (by omega)) ?_
        refine z_aload_n mx mb dX0_run_62 rfl 1 rfl ?_
        refine z_get (C := RX3) (T := TX3) (N := 8) mx mb mts (in_X0_run_X3) mo hK zgw (8 + t) (wR_t (by omega)) rfl 1 (by decide) (mts _ (List.mem_of_getElem? (i := 5) rfl)) (fun _ h9 => h9) rfl dX0_run_63 ?_
        refine z_top (show R2 (8 + t) 1 = f2 (79 + 8 * (t : Int) + 1) from by exact et2 1 (by omega) (by omega)) ?_
        refine z_aload_n mx mb dX0_run_66 rfl 0 rfl ?_
        refine z_aload_n mx mb dX0_run_67 rfl 1 rfl ?_
        refine z_callP (As := [.ref (a (8 + t))]) (rest := [.int (iZ (f2 (79 + 8 * (t : Int) + 1))), .int (iZ (f2 (79 + 8 * (t : Int) + 0))), .ref (a 1)]) ⟨mx, mb, mml, mo, mts⟩ hK zgw (c_X0_dragOf l D y a R2 f2 t (by omega) (by omega) (by assumption) (by assumption)) (cwV 1 mts gX0_run_X0_dragOf rfl rfl rfl (by decide +kernel) ⟨Nat.le_of_ble_eq_true rfl, Nat.le_of_ble_eq_true rfl⟩) (fun _ h => h) 0 wR_0 rfl rfl rfl rfl (Nat.le_of_ble_eq_true rfl) ⟨Nat.zero_le _, Nat.zero_le _⟩ dX0_run_68 ?_
        refine z_callP (As := [.int (iZ (f2 (79 + 8 * (t : Int) + 0))), .int (iZ (f2 (79 + 8 * (t : Int) + 1))), .int (iZ (drag f2 (t : Int)))]) (rest := []) ⟨mx, mb, mml, mo, mts⟩ hK zgw (c_X1_squareBehind l D y a R2 f2 (f2 (79 + 8 * (t : Int) + 0)) (f2 (79 + 8 * (t : Int) + 1)) (drag f2 (t : Int)) (by omega) (by omega) (by omega) (by assumption) (by assumption)) (cwV 3 mts gX0_run_X1_squareBehind rfl rfl rfl (by decide +kernel) ⟨Nat.le_of_ble_eq_true rfl, Nat.le_of_ble_eq_true rfl⟩) (fun _ h => h) 1 wR_1 rfl rfl rfl rfl (Nat.le_of_ble_eq_true rfl) ⟨Nat.zero_le _, Nat.zero_le _⟩ dX0_run_71 ?_
        obtain ⟨sq, esq⟩ : ∃ z, z = squareOn f2 (f2 (79 + 8 * (t : Int) + 0)) (after f2 (f2 (79 + 8 * (t : Int) + 0))) (f2 (79 + 8 * (t : Int) + 1)) (drag f2 (t : Int)) := ⟨_, rfl⟩
        have sq1 := squareOn_up (sq := f2 (79 + 8 * (t : Int) + 1)) (d := drag f2 (t : Int)) hW2 (show 0 ≤ f2 (79 + 8 * (t : Int) + 0) ∧ f2 (79 + 8 * (t : Int) + 0) < 30 by omega) (show 0 ≤ after f2 (f2 (79 + 8 * (t : Int) + 0)) ∧ after f2 (f2 (79 + 8 * (t : Int) + 0)) < 30 by omega)
        have sq2 := sq1.2 (by omega) (by omega)
        refine z_top (show squareOn f2 (f2 (79 + 8 * (t : Int) + 0)) (after f2 (f2 (79 + 8 * (t : Int) + 0))) (f2 (79 + 8 * (t : Int) + 1)) (drag f2 (t : Int)) = sq from by exact esq.symm) ?_
        refine z_istore_n mx mb dX0_run_74 rfl (by decide) [(2, .int (iZ sq)), (0, .ref (a 0)), (1, .ref (a (8 + t)))] rfl ?_
        refine z_iload_n mx mb dX0_run_75 rfl 0 rfl ?_
        refine z_if_ge (tgt := 84) mx mb (by omega) dX0_run_76 (by decide) (fun c76 => ?_) (fun c76 => ?_)
        · skip
          refine z_aload_n mx mb dX0_run_84 rfl 2 rfl ?_
          refine z_aload_n mx mb dX0_run_85 rfl 1 rfl ?_
          refine z_get (C := RX0) (T := TX0) (N := 9) mx mb mts (in_X0_run_X0) mo hK zgw 0 wR_0 rfl 0 (by decide) (mts _ (List.mem_of_getElem? (i := 2) rfl)) (fun _ h9 => h9) rfl dX0_run_86 ?_
          refine z_aload_n mx mb dX0_run_89 rfl 2 rfl ?_
          refine z_get (C := RX3) (T := TX3) (N := 8) mx mb mts (in_X0_run_X3) mo hK zgw (8 + t) (wR_t (by omega)) rfl 0 (by decide) (mts _ (List.mem_of_getElem? (i := 4) rfl)) (fun _ h9 => h9) rfl dX0_run_90 ?_
          refine z_top (show R2 (8 + t) 0 = f2 (79 + 8 * (t : Int) + 0) from by exact et2 0 (by omega) (by omega)) ?_
          refine z_callP (As := [.int (iZ (f2 (79 + 8 * (t : Int) + 0)))]) (rest := [.ref (a (8 + t))]) ⟨mx, mb, mml, mo, mts⟩ hK zgw (c_X1_nextCell l D y a R2 f2 (f2 (79 + 8 * (t : Int) + 0)) (by omega) (by assumption) (by assumption)) (cwV 1 mts gX0_run_X1_nextCell rfl rfl rfl (by decide +kernel) ⟨Nat.le_of_ble_eq_true rfl, Nat.le_of_ble_eq_true rfl⟩) (fun _ h => h) 1 wR_1 rfl rfl rfl rfl (Nat.le_of_ble_eq_true rfl) ⟨Nat.zero_le _, Nat.zero_le _⟩ dX0_run_93 ?_
          refine z_iload_n mx mb dX0_run_96 rfl 0 rfl ?_
          refine z_callT (t := t) (As := [.int (iZ (after f2 (f2 (79 + 8 * (t : Int) + 0)))), .int (iZ sq)]) (rest := []) (by omega) ⟨mx, mb, mml, mo, mts⟩ hK hA (fun sz => c_X3_moveTo l D sz y (a (8 + t)) (R2 (8 + t)) (after f2 (f2 (79 + 8 * (t : Int) + 0))) sq ) (cwV 2 mts gX0_run_X3_moveTo rfl rfl rfl (by decide +kernel) ⟨Nat.le_of_ble_eq_true rfl, Nat.le_of_ble_eq_true rfl⟩) rfl rfl (Nat.le_of_ble_eq_true rfl) ⟨Nat.zero_le _, Nat.zero_le _⟩ dX0_run_97 ?_
          have hR3 : Rel (came f2 (t : Int) sq) (uc R2 (8 + t) (zu (zu (zu (R2 (8 + t)) 0 (after f2 (f2 (79 + 8 * (t : Int) + 0)))) 1 sq) 6 ((R2 (8 + t)) 6 + 1))) := by exact rel_came hR2 hW2 ht2.1
          generalize uc R2 (8 + t) (zu (zu (zu (R2 (8 + t)) 0 (after f2 (f2 (79 + 8 * (t : Int) + 0)))) 1 sq) 6 ((R2 (8 + t)) 6 + 1)) = R3 at hR3 ⊢
          obtain ⟨f3, ef3⟩ : ∃ z, z = came f2 (t : Int) sq := ⟨_, rfl⟩
          rw [← ef3] at hR3
          obtain ⟨⟨r0, r1, r2, r3, r4⟩, rc, rb, ⟨s0, s1, s2, s3⟩, rt, rl⟩ := id hR3
          have jx3 : Jx f3 := (by rw [ef3]; exact jx2.came ht4 (by omega))
          obtain ⟨hW3, hN3, hT3⟩ := jx3.f
          have o3 : ∀ i : Int, i < 79 → f3 i = f2 i := fun i hi => (by rw [ef3]; exact came_2 ht4.1 hi)
          have ht3 : (t : Int) < f3 2 ∧ t < 4 := (by rw [o3 2 (by omega)]; exact ht2)
          have o30 := o3 0 (by omega)
          have c3c : f3 (79 + 8 * (t : Int) + 0) = after f2 (f2 (79 + 8 * (t : Int) + 0)) := (by rw [ef3, came_cm (Or.inl rfl), if_pos ⟨rfl, rfl⟩])
          refine z_aload_n mx mb dX0_run_100 rfl 1 rfl ?_
          refine z_get (C := RX0) (T := TX0) (N := 9) mx mb mts (in_X0_run_X0) mo hK zgw 0 wR_0 rfl 0 (by decide) (mts _ (List.mem_of_getElem? (i := 2) rfl)) (fun _ h9 => h9) rfl dX0_run_101 ?_
          refine z_get (C := RX1) (T := TX1) (N := 6) mx mb mts (in_X0_run_X1) mo hK zgw 1 wR_1 rfl 1 (by decide) (mts _ (List.mem_of_getElem? (i := 3) rfl)) (fun _ h9 => h9) rfl dX0_run_104 ?_
          refine z_aload_n mx mb dX0_run_107 rfl 2 rfl ?_
          refine z_get (C := RX3) (T := TX3) (N := 8) mx mb mts (in_X0_run_X3) mo hK zgw (8 + t) (wR_t (by omega)) rfl 0 (by decide) (mts _ (List.mem_of_getElem? (i := 4) rfl)) (fun _ h9 => h9) rfl dX0_run_108 ?_
          refine z_top (show R3 (8 + t) 0 = after f2 (f2 (79 + 8 * (t : Int) + 0)) from by rw [rt t ht3.1 0 (by omega) (by omega)]; exact c3c) ?_
          refine z_iald mx mb hK zgw 3 0 wR_3 rfl (by decide) (by omega) dX0_run_111 ?_
          refine z_top (show (R3 3) (after f2 (f2 (79 + 8 * (t : Int) + 0))) = f2 (41 + after f2 (f2 (79 + 8 * (t : Int) + 0))) from by rw [(rc _ ac.1 (by omega)).2.1]; exact o3 _ (by omega)) ?_
          refine z_iconst mx mb dX0_run_112 ?_
          refine z_icmp_ne (tgt := 124) mx mb (by omega) (by omega) dX0_run_113 (by decide) (fun c113 => ?_) (fun c113 => ?_)
          · skip
            refine z_aload_n mx mb dX0_run_124 rfl 1 rfl ?_
            refine z_get (C := RX0) (T := TX0) (N := 9) mx mb mts (in_X0_run_X0) mo hK zgw 0 wR_0 rfl 0 (by decide) (mts _ (List.mem_of_getElem? (i := 2) rfl)) (fun _ h9 => h9) rfl dX0_run_125 ?_
            refine z_aload_n mx mb dX0_run_128 rfl 2 rfl ?_
            refine z_get (C := RX3) (T := TX3) (N := 8) mx mb mts (in_X0_run_X3) mo hK zgw (8 + t) (wR_t (by omega)) rfl 0 (by decide) (mts _ (List.mem_of_getElem? (i := 4) rfl)) (fun _ h9 => h9) rfl dX0_run_129 ?_
            refine z_top (show R3 (8 + t) 0 = after f2 (f2 (79 + 8 * (t : Int) + 0)) from by rw [rt t ht3.1 0 (by omega) (by omega)]; exact c3c) ?_
            refine z_iload_n mx mb dX0_run_132 rfl 0 rfl ?_
            refine z_callP (As := [.int (iZ (after f2 (f2 (79 + 8 * (t : Int) + 0)))), .int (iZ sq)]) (rest := []) ⟨mx, mb, mml, mo, mts⟩ hK zgw (c_X1_isValley l D y a R3 f3 (after f2 (f2 (79 + 8 * (t : Int) + 0))) sq (by omega) (by omega) (by assumption) (by assumption)) (cwV 2 mts gX0_run_X1_isValley rfl rfl rfl (by decide +kernel) ⟨Nat.le_of_ble_eq_true rfl, Nat.le_of_ble_eq_true rfl⟩) (fun _ h => h) 1 wR_1 rfl rfl rfl rfl (Nat.le_of_ble_eq_true rfl) ⟨Nat.zero_le _, Nat.zero_le _⟩ dX0_run_133 ?_
            refine z_if_eq (tgt := 143) mx mb (b2z_rng _) dX0_run_136 (by decide) (fun c136 => ?_) (fun c136 => ?_)
            · skip
              rw [hQ]
              exact z_retV mx mb mr mlk hK R3 (by show Rel _ _; unfold goes; rw [if_neg (by omega), put_put, ← ef2]; unfold moves; rw [← esq, if_neg (by omega), if_neg (by omega), if_neg (show ¬ (sq = 0 ∧ ¬ f2 (41 + after f2 (f2 (79 + 8 * (t : Int) + 0))) = 1) from fun z => b2z_e c136 ⟨z.1, by rw [o3 _ (by omega)]; omega⟩), ← ef3]; exact hR3) rfl dX0_run_143
            · skip
              refine z_aload_n mx mb dX0_run_139 rfl 2 rfl ?_
              refine z_callT (t := t) (As := []) (rest := []) (by omega) ⟨mx, mb, mml, mo, mts⟩ hK hA (fun sz => c_X3_lie l D sz y (a (8 + t)) (R3 (8 + t))  ) (cwV 0 mts gX0_run_X3_lie rfl rfl rfl (by decide +kernel) ⟨Nat.le_of_ble_eq_true rfl, Nat.le_of_ble_eq_true rfl⟩) rfl rfl (Nat.le_of_ble_eq_true rfl) ⟨Nat.zero_le _, Nat.zero_le _⟩ dX0_run_140 ?_
              rw [hQ]
              exact z_retV mx mb mr mlk hK (uc R3 (8 + t) (zu (zu (zu (R3 (8 + t)) 1 0) 2 0) 4 2)) (by show Rel _ _; unfold goes; rw [if_neg (by omega), put_put, ← ef2]; unfold moves; rw [← esq, if_neg (by omega), if_neg (by omega), if_pos (show sq = 0 ∧ ¬ f2 (41 + after f2 (f2 (79 + 8 * (t : Int) + 0))) = 1 from ⟨(b2z_ne c136).1, by have z := (b2z_ne c136).2; rw [o3 _ (by omega)] at z; omega⟩), ← ef3]; exact rel_lie hR3 hW3 ht3.1) rfl dX0_run_143
          · skip
            have ap3 : Ap (stands f3 (t : Int)) := (by rw [ef3]; exact Ap_stand_of kp2 jx2 ⟨ht4.1, ht2.1⟩ m2 esq (by omega) (by omega))
            refine z_aload_n mx mb dX0_run_116 rfl 1 rfl ?_
            refine z_aload_n mx mb dX0_run_117 rfl 2 rfl ?_
            refine z_callV0 (As := [.ref (a (8 + t))]) (rest := []) ⟨mx, mb, mml, mo, mts⟩ hK hA (fun sz => c_X0_comeToBrake l D sz y a R3 f3 t (by omega) (by assumption) (by assumption) (by assumption)) (cwV 1 mts gX0_run_X0_comeToBrake rfl rfl rfl (by decide +kernel) ⟨Nat.le_of_ble_eq_true rfl, Nat.le_of_ble_eq_true rfl⟩) 0 wR_0 rfl rfl rfl rfl (Nat.le_of_ble_eq_true rfl) ⟨Nat.zero_le _, Nat.zero_le _⟩ dX0_run_118 (fun u118 hu118 => ?_)
            have hu118 : Rel (comes f3 (t : Int)) u118 := hu118
            show Gz pp l ee ({ frames := 3, cells := 0, slots := 0, locals := 66 } : Room) ss mm args below meth cd 3 0 0 Q (Zw D vwCl (va_A wst sz) ss (wR y a u118)) 121 [(2, .int (iZ sq)), (0, .ref (a 0)), (1, .ref (a (8 + t)))] []
            refine z_goto (tgt := 143) mx mb dX0_run_121 (by decide) ?_
            rw [hQ]
            exact z_retV mx mb mr mlk hK u118 (by show Rel _ _; unfold goes; rw [if_neg (by omega), put_put, ← ef2]; unfold moves; rw [← esq, if_neg (by omega), if_pos (by omega), ← ef3]; assumption) rfl dX0_run_143
        · skip
          refine z_aload_n mx mb dX0_run_79 rfl 2 rfl ?_
          refine z_callT (t := t) (As := []) (rest := []) (by omega) ⟨mx, mb, mml, mo, mts⟩ hK hA (fun sz => c_X3_lie l D sz y (a (8 + t)) (R2 (8 + t))  ) (cwV 0 mts gX0_run_X3_lie rfl rfl rfl (by decide +kernel) ⟨Nat.le_of_ble_eq_true rfl, Nat.le_of_ble_eq_true rfl⟩) rfl rfl (Nat.le_of_ble_eq_true rfl) ⟨Nat.zero_le _, Nat.zero_le _⟩ dX0_run_80 ?_
          have hR3 : Rel (lies f2 (t : Int)) (uc R2 (8 + t) (zu (zu (zu (R2 (8 + t)) 1 0) 2 0) 4 2)) := by exact rel_lie hR2 hW2 ht2.1
          generalize uc R2 (8 + t) (zu (zu (zu (R2 (8 + t)) 1 0) 2 0) 4 2) = R3 at hR3 ⊢
          obtain ⟨⟨r0, r1, r2, r3, r4⟩, rc, rb, ⟨s0, s1, s2, s3⟩, rt, rl⟩ := id hR3
          rw [hQ]
          exact z_retV mx mb mr mlk hK R3 (by show Rel _ _; unfold goes; rw [if_neg (by omega), put_put, ← ef2]; unfold moves; rw [← esq, if_pos (by omega)]; exact hR3) rfl dX0_run_83
      · skip
        rw [hQ]
        exact z_retV mx mb mr mlk hK R1 (by show Rel _ _; unfold goes; rw [if_pos (by omega)]; exact hR1) rfl dX0_run_42
  subst hQ
  subst hw0
  exact hstart

theorem in_X0_tick_X0 : ∀ w ∈ wsX00, w ∈ wsX0_tick := by decide +kernel
theorem in_X0_tick_X3 : ∀ w ∈ wsX30, w ∈ wsX0_tick := by decide +kernel
set_option maxRecDepth 100000 in
set_option maxHeartbeats 4000000 in
theorem c_X0_tick (l : Launch) (D : va_G) (sz : Nat) (y : Nat → ClassId) (a : Nat → Nat) (R : Nat → Int → Int) (f : Int → Int) (hI : InvX f) (kp : Kp f) (hR : Rel f R) : Met l yX0_tick wsX0_tick ({ frames := 4, cells := 0, slots := 0, locals := 89 } : Room) (zPw D vwCl (zT y) (wR y a R) sz [.ref (a 0)]) (va_Qv (fun R' : Nat → Int → Int => Rel (tick f) R') (zB D vwCl (zT y) (wR y a R) sz (fun R' : Nat → Int → Int => wR y a R')) (va_A (wR y a R) sz)) 0 0 (va_A (wR y a R) sz) := by
  refine z_headW (cc := cX0_tick) (maxL := 2) (ret := none) [(0, .ref (a 0))] rfl (Nat.le_of_ble_eq_true rfl) (by decide +kernel) rfl ?_
  intro pp ee ss mm below meth cd mx mb mr mml mo mts mlk hK hname hsz hA
  generalize ([.ref (a 0)] : List Value).toArray = args at mts ⊢
  obtain ⟨wst, hw0⟩ : ∃ wst, wst = wR y a R := ⟨_, rfl⟩
  have hA : ∀ q, ss.heap.size ≤ q → va_A wst sz q := by rw [hw0]; exact hA
  obtain ⟨Q, hQ⟩ : ∃ Q, Q = MQ below (va_Qv (fun R' : Nat → Int → Int => Rel (tick f) R') (zB D vwCl (zT y) wst sz (fun R' : Nat → Int → Int => wR y a R')) (va_A wst sz)) args ss 0 0 (va_A wst sz) := ⟨_, rfl⟩
  have hstart : Gz pp l ee ({ frames := 4, cells := 0, slots := 0, locals := 89 } : Room) ss mm args below meth cd 2 0 0 Q (Zw D vwCl (va_A wst sz) ss (wR y a R)) 0 [(0, .ref (a 0))] [] := by
    have hJ0 := hI.J
    obtain ⟨hW, hN, hT⟩ := hJ0.f
    obtain ⟨w0, w1, w2, w3, w4, w5, w6⟩ := id hW
    refine z_iconst mx mb dX0_tick_0 ?_
    refine z_istore_n mx mb dX0_tick_1 rfl (by decide) [(1, .int (iZ 0)), (0, .ref (a 0))] rfl ?_
    have lp2 : ∀ (nn : Nat) (i : Nat) (Ri : Nat → Int → Int) (x1 : Int), (f 2).toNat - i < nn → ((i : Int) ≤ f 2) → (x1 = (i : Int)) → (Rel (steps f i) Ri) → Gz pp l ee ({ frames := 4, cells := 0, slots := 0, locals := 89 } : Room) ss mm args below meth cd 2 0 0 Q (Zw D vwCl (va_A wst sz) ss (wR y a Ri)) 2 [(0, .ref (a 0)), (1, .int (iZ x1))] [] := by
      intro nn
      induction nn with
      | zero => exact fun i Ri x1 hm => absurd hm (Nat.not_lt_zero _)
      | succ nn ih =>
        intro i Ri x1 hm hi e3 hRi
        obtain ⟨jx, o⟩ := steps_Jx hI i (by omega)
        have kpi := Kp_steps kp hI i hi
        obtain ⟨hWi, hNi, hTi⟩ := jx.f
        obtain ⟨⟨r0, r1, r2, r3, r4⟩, rc, rb, ⟨s0, s1, s2, s3⟩, rt, rl⟩ := id hRi
        have o2 := o 2 (by omega) (by omega) (by omega) (by omega) (by omega)
        have nk := hNi.2.2.2.2.2.2.2
        refine z_iload_n mx mb dX0_tick_2 rfl 1 rfl ?_
        refine z_aload_n mx mb dX0_tick_3 rfl 0 rfl ?_
        refine z_get (C := RX0) (T := TX0) (N := 9) mx mb mts (in_X0_tick_X0) mo hK zgw 0 wR_0 rfl 6 (by decide) (mts _ (List.mem_of_getElem? (i := 1) rfl)) (fun _ h9 => h9) rfl dX0_tick_4 ?_
        refine z_top (show Ri 0 0 = f 2 from by rw [r2, o2]) ?_
        refine z_icmp_ge (tgt := 74) mx mb (by omega) (by omega) dX0_tick_7 (by decide) (fun c7 => ?_) (fun c7 => ?_)
        · skip
          refine z_aload_n mx mb dX0_tick_74 rfl 0 rfl ?_
          refine z_dup mx mb dX0_tick_75 rfl ?_
          refine z_get (C := RX0) (T := TX0) (N := 9) mx mb mts (in_X0_tick_X0) mo hK zgw 0 wR_0 rfl 7 (by decide) (mts _ (List.mem_of_getElem? (i := 5) rfl)) (fun _ h9 => h9) rfl dX0_tick_76 ?_
          refine z_iconst mx mb dX0_tick_79 ?_
          refine z_iadd mx mb dX0_tick_80 ?_
          refine z_put (ty := .int) (C := RX0) (T := TX0) (N := 9) mx mb mts (in_X0_tick_X0) tyX0_ok nmX0 mo hK 0 wR_0 rfl 7 (by decide) (mts _ (List.mem_of_getElem? (i := 5) rfl)) (fun _ h9 => h9) rfl (by decide +kernel) rfl rfl (Nat.le_of_ble_eq_true rfl) dX0_tick_81 (wR y a (uc Ri 0 (zu (Ri 0) 1 ((Ri 0 1) + 1)))) wR_s0_1 ?_
          rw [hQ]
          exact z_retV mx mb mr mlk hK (uc Ri 0 (zu (Ri 0) 1 ((Ri 0 1) + 1))) (by show Rel _ _; exact rel_eq (rel_tick3 (v := Ri 0 1 + 1) hRi hWi) (by unfold tick; rw [show (f 2).toNat = i from by omega, r3, o 3 (by omega) (by omega) (by omega) (by omega) (by omega)])) rfl dX0_tick_84
        · skip
          have ht4 : 0 ≤ (i : Int) ∧ (i : Int) < 4 := by omega
          have ei := rt i (by omega) 4 (by omega) (by omega)
          have qi := hWi.2.2.2.2.2.2 (i : Int) ht4.1 ht4.2
          refine z_aload_n mx mb dX0_tick_10 rfl 0 rfl ?_
          refine z_get (C := RX0) (T := TX0) (N := 9) mx mb mts (in_X0_tick_X0) mo hK zgw 0 wR_0 rfl 1 (by decide) (mts _ (List.mem_of_getElem? (i := 2) rfl)) (fun _ h9 => h9) rfl dX0_tick_11 ?_
          refine z_iload_n mx mb dX0_tick_14 rfl 1 rfl ?_
          refine z_top (show x1 = (i : Int) from by exact e3) ?_
          refine z_aald (i := i) mx mb hK zgw 6 1 wR_6 rfl (by decide) (by omega) dX0_tick_15 ?_
          refine z_get (C := RX3) (T := TX3) (N := 8) mx mb mts (in_X0_tick_X3) mo hK zgw (8 + i) (wR_t (by omega)) rfl 4 (by decide) (mts _ (List.mem_of_getElem? (i := 3) rfl)) (fun _ h9 => h9) rfl dX0_tick_16 ?_
          refine z_top (show Ri (8 + i) 4 = steps f i (79 + 8 * (i : Int) + 4) from by exact ei) ?_
          refine z_iconst mx mb dX0_tick_19 ?_
          refine z_icmp_ne (tgt := 31) mx mb (by omega) (by omega) dX0_tick_20 (by decide) (fun c20 => ?_) (fun c20 => ?_)
          · skip
            refine z_aload_n mx mb dX0_tick_31 rfl 0 rfl ?_
            refine z_get (C := RX0) (T := TX0) (N := 9) mx mb mts (in_X0_tick_X0) mo hK zgw 0 wR_0 rfl 1 (by decide) (mts _ (List.mem_of_getElem? (i := 2) rfl)) (fun _ h9 => h9) rfl dX0_tick_32 ?_
            refine z_iload_n mx mb dX0_tick_35 rfl 1 rfl ?_
            refine z_top (show x1 = (i : Int) from by exact e3) ?_
            refine z_aald (i := i) mx mb hK zgw 6 1 wR_6 rfl (by decide) (by omega) dX0_tick_36 ?_
            refine z_get (C := RX3) (T := TX3) (N := 8) mx mb mts (in_X0_tick_X3) mo hK zgw (8 + i) (wR_t (by omega)) rfl 4 (by decide) (mts _ (List.mem_of_getElem? (i := 3) rfl)) (fun _ h9 => h9) rfl dX0_tick_37 ?_
            refine z_top (show Ri (8 + i) 4 = steps f i (79 + 8 * (i : Int) + 4) from by exact ei) ?_
            refine z_if_ne (tgt := 53) mx mb (by omega) dX0_tick_40 (by decide) (fun c40 => ?_) (fun c40 => ?_)
            · skip
              obtain ⟨⟨r0, r1, r2, r3, r4⟩, rc, rb, ⟨s0, s1, s2, s3⟩, rt, rl⟩ := id hRi
              have jy : Jy (steps f i) := jx.y
              obtain ⟨hWg, hNg, hTg⟩ := jy.f
              obtain ⟨T1, T2, T3, T5, T7⟩ := hTg (i : Int) ht4.1 ht4.2
              have qg := hWg.2.2.2.2.2.2 (i : Int) ht4.1 ht4.2
              have z1 := rt i (by omega) 1 (by omega) (by omega)
              have z3 := rt i (by omega) 3 (by omega) (by omega)
              have z4 := rt i (by omega) 4 (by omega) (by omega)
              have n7 := hNg.2.2.2.2.1
              refine z_aload_n mx mb dX0_tick_53 rfl 0 rfl ?_
              refine z_get (C := RX0) (T := TX0) (N := 9) mx mb mts (in_X0_tick_X0) mo hK zgw 0 wR_0 rfl 1 (by decide) (mts _ (List.mem_of_getElem? (i := 2) rfl)) (fun _ h9 => h9) rfl dX0_tick_54 ?_
              refine z_iload_n mx mb dX0_tick_57 rfl 1 rfl ?_
              refine z_top (show x1 = (i : Int) from by exact e3) ?_
              refine z_aald (i := i) mx mb hK zgw 6 1 wR_6 rfl (by decide) (by omega) dX0_tick_58 ?_
              refine z_aload_n mx mb dX0_tick_59 rfl 0 rfl ?_
              refine z_get (C := RX0) (T := TX0) (N := 9) mx mb mts (in_X0_tick_X0) mo hK zgw 0 wR_0 rfl 2 (by decide) (mts _ (List.mem_of_getElem? (i := 4) rfl)) (fun _ h9 => h9) rfl dX0_tick_60 ?_
              refine z_iconst mx mb dX0_tick_63 ?_
              refine z_iald mx mb hK zgw 7 0 wR_7 rfl (by decide) (by omega) dX0_tick_64 ?_
              refine z_callT (t := i) (As := [.int (iZ ((Ri 7) 3))]) (rest := []) (by omega) ⟨mx, mb, mml, mo, mts⟩ hK hA (fun sz => c_X3_passWarmth l D sz y (a (8 + i)) (Ri (8 + i)) ((Ri 7) 3) (by omega) (by omega) (by omega) (by omega)) (cwV 1 mts gX0_tick_X3_passWarmth rfl rfl rfl (by decide +kernel) ⟨Nat.le_of_ble_eq_true rfl, Nat.le_of_ble_eq_true rfl⟩) rfl rfl (Nat.le_of_ble_eq_true rfl) ⟨Nat.zero_le _, Nat.zero_le _⟩ dX0_tick_65 ?_
              refine z_iinc mx mb dX0_tick_68 1 rfl (by decide) [(1, .int (iZ (x1 + 1))), (0, .ref (a 0))] rfl ?_
              refine z_goto (tgt := 2) mx mb dX0_tick_71 (by decide) ?_
              refine z_lv [1, 0] rfl ?_
              exact ih (i + 1) _ _ (by omega) (by omega) (by omega) (by exact rel_eq (rel_warm hRi hWg (by omega) s3) (by simp only [steps]; unfold step; rw [if_neg c20, if_neg c40]))
            · skip
              refine z_aload_n mx mb dX0_tick_43 rfl 0 rfl ?_
              refine z_aload_n mx mb dX0_tick_44 rfl 0 rfl ?_
              refine z_get (C := RX0) (T := TX0) (N := 9) mx mb mts (in_X0_tick_X0) mo hK zgw 0 wR_0 rfl 1 (by decide) (mts _ (List.mem_of_getElem? (i := 2) rfl)) (fun _ h9 => h9) rfl dX0_tick_45 ?_
              refine z_iload_n mx mb dX0_tick_48 rfl 1 rfl ?_
              refine z_top (show x1 = (i : Int) from by exact e3) ?_
              refine z_aald (i := i) mx mb hK zgw 6 1 wR_6 rfl (by decide) (by omega) dX0_tick_49 ?_
              refine z_callV0 (As := [.ref (a (8 + i))]) (rest := []) ⟨mx, mb, mml, mo, mts⟩ hK hA (fun sz => c_X0_run l D sz y a Ri (steps f i) i (by omega) (by omega) (by assumption) (by assumption) (by assumption)) (cwV 1 mts gX0_tick_X0_run rfl rfl rfl (by decide +kernel) ⟨Nat.le_of_ble_eq_true rfl, Nat.le_of_ble_eq_true rfl⟩) 0 wR_0 rfl rfl rfl rfl (Nat.le_of_ble_eq_true rfl) ⟨Nat.zero_le _, Nat.zero_le _⟩ dX0_tick_50 (fun u50 hu50 => ?_)
              have hu50 : Rel (goes (steps f i) (i : Int)) u50 := hu50
              show Gz pp l ee ({ frames := 4, cells := 0, slots := 0, locals := 89 } : Room) ss mm args below meth cd 2 0 0 Q (Zw D vwCl (va_A wst sz) ss (wR y a u50)) 53 [(0, .ref (a 0)), (1, .int (iZ x1))] []
              obtain ⟨⟨r0, r1, r2, r3, r4⟩, rc, rb, ⟨s0, s1, s2, s3⟩, rt, rl⟩ := id hu50
              have g2 : goes (steps f i) (i : Int) 2 = steps f i 2 := (by obtain ⟨_, _, _, h9, _⟩ := jx; exact goes_2 h9 ht4 (by omega))
              have g7 : goes (steps f i) (i : Int) 7 = steps f i 7 := (by obtain ⟨_, _, _, h9, _⟩ := jx; exact goes_2 h9 ht4 (by omega))
              have jy : Jy (goes (steps f i) (i : Int)) := jx.goes ht4
              obtain ⟨hWg, hNg, hTg⟩ := jy.f
              obtain ⟨T1, T2, T3, T5, T7⟩ := hTg (i : Int) ht4.1 ht4.2
              have qg := hWg.2.2.2.2.2.2 (i : Int) ht4.1 ht4.2
              have z1 := rt i (by omega) 1 (by omega) (by omega)
              have z3 := rt i (by omega) 3 (by omega) (by omega)
              have z4 := rt i (by omega) 4 (by omega) (by omega)
              have n7 := hNg.2.2.2.2.1
              refine z_aload_n mx mb dX0_tick_53 rfl 0 rfl ?_
              refine z_get (C := RX0) (T := TX0) (N := 9) mx mb mts (in_X0_tick_X0) mo hK zgw 0 wR_0 rfl 1 (by decide) (mts _ (List.mem_of_getElem? (i := 2) rfl)) (fun _ h9 => h9) rfl dX0_tick_54 ?_
              refine z_iload_n mx mb dX0_tick_57 rfl 1 rfl ?_
              refine z_top (show x1 = (i : Int) from by exact e3) ?_
              refine z_aald (i := i) mx mb hK zgw 6 1 wR_6 rfl (by decide) (by omega) dX0_tick_58 ?_
              refine z_aload_n mx mb dX0_tick_59 rfl 0 rfl ?_
              refine z_get (C := RX0) (T := TX0) (N := 9) mx mb mts (in_X0_tick_X0) mo hK zgw 0 wR_0 rfl 2 (by decide) (mts _ (List.mem_of_getElem? (i := 4) rfl)) (fun _ h9 => h9) rfl dX0_tick_60 ?_
              refine z_iconst mx mb dX0_tick_63 ?_
              refine z_iald mx mb hK zgw 7 0 wR_7 rfl (by decide) (by omega) dX0_tick_64 ?_
              refine z_callT (t := i) (As := [.int (iZ ((u50 7) 3))]) (rest := []) (by omega) ⟨mx, mb, mml, mo, mts⟩ hK hA (fun sz => c_X3_passWarmth l D sz y (a (8 + i)) (u50 (8 + i)) ((u50 7) 3) (by omega) (by omega) (by omega) (by omega)) (cwV 1 mts gX0_tick_X3_passWarmth rfl rfl rfl (by decide +kernel) ⟨Nat.le_of_ble_eq_true rfl, Nat.le_of_ble_eq_true rfl⟩) rfl rfl (Nat.le_of_ble_eq_true rfl) ⟨Nat.zero_le _, Nat.zero_le _⟩ dX0_tick_65 ?_
              refine z_iinc mx mb dX0_tick_68 1 rfl (by decide) [(1, .int (iZ (x1 + 1))), (0, .ref (a 0))] rfl ?_
              refine z_goto (tgt := 2) mx mb dX0_tick_71 (by decide) ?_
              refine z_lv [1, 0] rfl ?_
              exact ih (i + 1) _ _ (by omega) (by omega) (by omega) (by exact rel_eq (rel_warm hu50 hWg (by omega) s3) (by simp only [steps]; unfold step; rw [if_neg c20, if_pos c40]))
          · skip
            refine z_aload_n mx mb dX0_tick_23 rfl 0 rfl ?_
            refine z_iload_n mx mb dX0_tick_24 rfl 1 rfl ?_
            refine z_top (show x1 = (i : Int) from by exact e3) ?_
            refine z_callV0 (As := [.int (iZ (i : Int))]) (rest := []) ⟨mx, mb, mml, mo, mts⟩ hK hA (fun sz => c_X0_waitOrStart l D sz y a Ri (steps f i) i (by omega) (by omega) (by assumption) (by assumption) (by assumption)) (cwV 1 mts gX0_tick_X0_waitOrStart rfl rfl rfl (by decide +kernel) ⟨Nat.le_of_ble_eq_true rfl, Nat.le_of_ble_eq_true rfl⟩) 0 wR_0 rfl rfl rfl rfl (Nat.le_of_ble_eq_true rfl) ⟨Nat.zero_le _, Nat.zero_le _⟩ dX0_tick_25 (fun u25 hu25 => ?_)
            have hu25 : Rel (waits (steps f i) (i : Int)) u25 := hu25
            show Gz pp l ee ({ frames := 4, cells := 0, slots := 0, locals := 89 } : Room) ss mm args below meth cd 2 0 0 Q (Zw D vwCl (va_A wst sz) ss (wR y a u25)) 28 [(0, .ref (a 0)), (1, .int (iZ x1))] []
            refine z_goto (tgt := 53) mx mb dX0_tick_28 (by decide) ?_
            obtain ⟨⟨r0, r1, r2, r3, r4⟩, rc, rb, ⟨s0, s1, s2, s3⟩, rt, rl⟩ := id hu25
            have g2 : waits (steps f i) (i : Int) 2 = steps f i 2 := waits_2 ht4.1 nk (by omega) (by omega) (by omega) (by omega)
            have g7 : waits (steps f i) (i : Int) 7 = steps f i 7 := waits_2 ht4.1 nk (by omega) (by omega) (by omega) (by omega)
            have jy : Jy (waits (steps f i) (i : Int)) := jx.wait ht4
            obtain ⟨hWg, hNg, hTg⟩ := jy.f
            obtain ⟨T1, T2, T3, T5, T7⟩ := hTg (i : Int) ht4.1 ht4.2
            have qg := hWg.2.2.2.2.2.2 (i : Int) ht4.1 ht4.2
            have z1 := rt i (by omega) 1 (by omega) (by omega)
            have z3 := rt i (by omega) 3 (by omega) (by omega)
            have z4 := rt i (by omega) 4 (by omega) (by omega)
            have n7 := hNg.2.2.2.2.1
            refine z_aload_n mx mb dX0_tick_53 rfl 0 rfl ?_
            refine z_get (C := RX0) (T := TX0) (N := 9) mx mb mts (in_X0_tick_X0) mo hK zgw 0 wR_0 rfl 1 (by decide) (mts _ (List.mem_of_getElem? (i := 2) rfl)) (fun _ h9 => h9) rfl dX0_tick_54 ?_
            refine z_iload_n mx mb dX0_tick_57 rfl 1 rfl ?_
            refine z_top (show x1 = (i : Int) from by exact e3) ?_
            refine z_aald (i := i) mx mb hK zgw 6 1 wR_6 rfl (by decide) (by omega) dX0_tick_58 ?_
            refine z_aload_n mx mb dX0_tick_59 rfl 0 rfl ?_
            refine z_get (C := RX0) (T := TX0) (N := 9) mx mb mts (in_X0_tick_X0) mo hK zgw 0 wR_0 rfl 2 (by decide) (mts _ (List.mem_of_getElem? (i := 4) rfl)) (fun _ h9 => h9) rfl dX0_tick_60 ?_
            refine z_iconst mx mb dX0_tick_63 ?_
            refine z_iald mx mb hK zgw 7 0 wR_7 rfl (by decide) (by omega) dX0_tick_64 ?_
            refine z_callT (t := i) (As := [.int (iZ ((u25 7) 3))]) (rest := []) (by omega) ⟨mx, mb, mml, mo, mts⟩ hK hA (fun sz => c_X3_passWarmth l D sz y (a (8 + i)) (u25 (8 + i)) ((u25 7) 3) (by omega) (by omega) (by omega) (by omega)) (cwV 1 mts gX0_tick_X3_passWarmth rfl rfl rfl (by decide +kernel) ⟨Nat.le_of_ble_eq_true rfl, Nat.le_of_ble_eq_true rfl⟩) rfl rfl (Nat.le_of_ble_eq_true rfl) ⟨Nat.zero_le _, Nat.zero_le _⟩ dX0_tick_65 ?_
            refine z_iinc mx mb dX0_tick_68 1 rfl (by decide) [(1, .int (iZ (x1 + 1))), (0, .ref (a 0))] rfl ?_
            refine z_goto (tgt := 2) mx mb dX0_tick_71 (by decide) ?_
            refine z_lv [1, 0] rfl ?_
            exact ih (i + 1) _ _ (by omega) (by omega) (by omega) (by exact rel_eq (rel_warm hu25 hWg (by omega) s3) (by simp only [steps]; unfold step; rw [if_pos c20]))
    refine z_lv [1, 0] rfl ?_
    exact lp2 _ 0 R 0 (Nat.lt_succ_self _) (by omega) (by rfl) (by exact hR)
  subst hQ
  subst hw0
  exact hstart
