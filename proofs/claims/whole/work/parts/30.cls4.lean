theorem in_X0_logDispatch_X0 : ∀ w ∈ wsX00, w ∈ wsX0_logDispatch := by decide +kernel
set_option maxRecDepth 100000 in
set_option maxHeartbeats 4000000 in
theorem c_X0_logDispatch (l : Launch) (D : va_G) (sz : Nat) (y : Nat → ClassId) (a : Nat → Nat) (R : Nat → Int → Int) (f : Int → Int) (t : Int) (hG : Lg f) (hN : Ns f) (hR : Rel f R) (hW : Wf f) : Met l yX0_logDispatch wsX0_logDispatch ({ frames := 1, cells := 0, slots := 0, locals := 21 } : Room) (zPw D vwCl (zT y) (wR y a R) sz [.ref (a 0), .int (iZ t)]) (va_Qv (fun R' : Nat → Int → Int => Rel (dispatches f t) R') (zB D vwCl (zT y) (wR y a R) sz (fun R' : Nat → Int → Int => wR y a R')) (va_A (wR y a R) sz)) 0 0 (va_A (wR y a R) sz) := by
  refine z_headW (cc := cX0_logDispatch) (maxL := 3) (ret := none) [(0, .ref (a 0)), (1, .int (iZ t))] rfl (Nat.le_of_ble_eq_true rfl) (by decide +kernel) rfl ?_
  intro pp ee ss mm below meth cd mx mb mr mml mo mts mlk hK hname hsz hA
  generalize ([.ref (a 0), .int (iZ t)] : List Value).toArray = args at mts ⊢
  obtain ⟨wst, hw0⟩ : ∃ wst, wst = wR y a R := ⟨_, rfl⟩
  have hA : ∀ q, ss.heap.size ≤ q → va_A wst sz q := by rw [hw0]; exact hA
  obtain ⟨Q, hQ⟩ : ∃ Q, Q = MQ below (va_Qv (fun R' : Nat → Int → Int => Rel (dispatches f t) R') (zB D vwCl (zT y) wst sz (fun R' : Nat → Int → Int => wR y a R')) (va_A wst sz)) args ss 0 0 (va_A wst sz) := ⟨_, rfl⟩
  have hstart : Gz pp l ee ({ frames := 1, cells := 0, slots := 0, locals := 21 } : Room) ss mm args below meth cd 3 0 0 Q (Zw D vwCl (va_A wst sz) ss (wR y a R)) 0 [(0, .ref (a 0)), (1, .int (iZ t))] [] := by
    obtain ⟨⟨r0, r1, r2, r3, r4⟩, rc, rb, ⟨s0, s1, s2, s3⟩, rt, rl⟩ := id hR
    obtain ⟨w0, w1, w2, w3, w4, w5, w6⟩ := id hW
    obtain ⟨n3, n4, n5, n6, n7, n8, n9, n10⟩ := id hN
    refine z_aload_n mx mb dX0_logDispatch_0 rfl 0 rfl ?_
    refine z_dup mx mb dX0_logDispatch_1 rfl ?_
    refine z_get (C := RX0) (T := TX0) (N := 9) mx mb mts (in_X0_logDispatch_X0) mo hK zgw 0 wR_0 rfl 8 (by decide) (mts _ (List.mem_of_getElem? (i := 1) rfl)) (fun _ h9 => h9) rfl dX0_logDispatch_2 ?_
    refine z_iconst mx mb dX0_logDispatch_5 ?_
    refine z_iadd mx mb dX0_logDispatch_6 ?_
    refine z_put (ty := .int) (C := RX0) (T := TX0) (N := 9) mx mb mts (in_X0_logDispatch_X0) tyX0_ok nmX0 mo hK 0 wR_0 rfl 8 (by decide) (mts _ (List.mem_of_getElem? (i := 1) rfl)) (fun _ h9 => h9) rfl (by decide +kernel) rfl rfl (Nat.le_of_ble_eq_true rfl) dX0_logDispatch_7 (wR y a (uc R 0 (zu (R 0) 2 ((R 0 2) + 1)))) wR_s0_2 ?_
    refine z_aload_n mx mb dX0_logDispatch_10 rfl 0 rfl ?_
    refine z_iconst mx mb dX0_logDispatch_11 ?_
    refine z_callP (As := [.int (iZ 0)]) (rest := []) ⟨mx, mb, mml, mo, mts⟩ hK zgw (c_X0_logPlace l D y a (uc R 0 (zu (R 0) 2 ((R 0 2) + 1))) f 0 (show (0:Int) ≤ 0 ∧ (0:Int) ≤ R 0 2 + 1 - 1 ∧ R 0 2 + 1 ≤ 2000000 by omega)) (cwV 1 mts gX0_logDispatch_X0_logPlace rfl rfl rfl (by decide +kernel) ⟨Nat.le_of_ble_eq_true rfl, Nat.le_of_ble_eq_true rfl⟩) (fun _ h => h) 0 wR_0 rfl rfl rfl rfl (Nat.le_of_ble_eq_true rfl) ⟨Nat.zero_le _, Nat.zero_le _⟩ dX0_logDispatch_12 ?_
    refine z_top (show ((uc R 0 (zu (R 0) 2 ((R 0 2) + 1))) 0 2 - 1 - 0) % 30 = f 8 % 30 from by show (R 0 2 + 1 - 1 - 0) % 30 = f 8 % 30; rw [show R 0 2 + 1 - 1 - 0 = f 8 by omega]) ?_
    refine z_istore_n mx mb dX0_logDispatch_15 rfl (by decide) [(2, .int (iZ (f 8 % 30))), (0, .ref (a 0)), (1, .int (iZ t))] rfl ?_
    refine z_aload_n mx mb dX0_logDispatch_16 rfl 1 rfl ?_
    refine z_get (C := RX0) (T := TX0) (N := 9) mx mb mts (in_X0_logDispatch_X0) mo hK zgw 0 wR_0 rfl 4 (by decide) (mts _ (List.mem_of_getElem? (i := 2) rfl)) (fun _ h9 => h9) rfl dX0_logDispatch_17 ?_
    refine z_iload_n mx mb dX0_logDispatch_20 rfl 0 rfl ?_
    refine z_aload_n mx mb dX0_logDispatch_21 rfl 1 rfl ?_
    refine z_get (C := RX0) (T := TX0) (N := 9) mx mb mts (in_X0_logDispatch_X0) mo hK zgw 0 wR_0 rfl 7 (by decide) (mts _ (List.mem_of_getElem? (i := 3) rfl)) (fun _ h9 => h9) rfl dX0_logDispatch_22 ?_
    refine z_top (show (uc R 0 (zu (R 0) 2 ((R 0 2) + 1))) 0 1 = f 3 from by show R 0 1 = f 3; exact r3) ?_
    refine z_iast mx mb hK 13 0 wR_13 rfl (by decide) (by omega) dX0_logDispatch_25 (wR y a (uc (uc R 0 (zu (R 0) 2 ((R 0 2) + 1))) 13 (zu ((uc R 0 (zu (R 0) 2 ((R 0 2) + 1))) 13) (f 8 % 30) (f 3)))) wR_s13 ?_
    refine z_aload_n mx mb dX0_logDispatch_26 rfl 1 rfl ?_
    refine z_get (C := RX0) (T := TX0) (N := 9) mx mb mts (in_X0_logDispatch_X0) mo hK zgw 0 wR_0 rfl 5 (by decide) (mts _ (List.mem_of_getElem? (i := 4) rfl)) (fun _ h9 => h9) rfl dX0_logDispatch_27 ?_
    refine z_iload_n mx mb dX0_logDispatch_30 rfl 0 rfl ?_
    refine z_iload_n mx mb dX0_logDispatch_31 rfl 2 rfl ?_
    refine z_iast mx mb hK 14 0 wR_14 rfl (by decide) (by omega) dX0_logDispatch_32 (wR y a (uc (uc (uc R 0 (zu (R 0) 2 ((R 0 2) + 1))) 13 (zu ((uc R 0 (zu (R 0) 2 ((R 0 2) + 1))) 13) (f 8 % 30) (f 3))) 14 (zu ((uc (uc R 0 (zu (R 0) 2 ((R 0 2) + 1))) 13 (zu ((uc R 0 (zu (R 0) 2 ((R 0 2) + 1))) 13) (f 8 % 30) (f 3))) 14) (f 8 % 30) t))) wR_s14 ?_
    rw [hQ]
    exact z_retV mx mb mr mlk hK (uc (uc (uc R 0 (zu (R 0) 2 ((R 0 2) + 1))) 13 (zu ((uc R 0 (zu (R 0) 2 ((R 0 2) + 1))) 13) (f 8 % 30) (f 3))) 14 (zu ((uc (uc R 0 (zu (R 0) 2 ((R 0 2) + 1))) 13 (zu ((uc R 0 (zu (R 0) 2 ((R 0 2) + 1))) 13) (f 8 % 30) (f 3))) 14) (f 8 % 30) t)) (by show Rel _ _; exact rel_disp hR hG hN hW) rfl dX0_logDispatch_33
  subst hQ
  subst hw0
  exact hstart

theorem in_X0_waitOrStart_X0 : ∀ w ∈ wsX00, w ∈ wsX0_waitOrStart := by decide +kernel
theorem in_X0_waitOrStart_X3 : ∀ w ∈ wsX30, w ∈ wsX0_waitOrStart := by decide +kernel
set_option maxRecDepth 100000 in
set_option maxHeartbeats 4000000 in
theorem c_X0_waitOrStart (l : Launch) (D : va_G) (sz : Nat) (y : Nat → ClassId) (a : Nat → Nat) (R : Nat → Int → Int) (f : Int → Int) (t : Nat) (ht : (t : Int) < f 2 ∧ t < 4) (hm : f (79 + 8 * (t : Int) + 4) = 1) (hJ : Jx f) (kp : Kp f) (hR : Rel f R) : Met l yX0_waitOrStart wsX0_waitOrStart ({ frames := 3, cells := 0, slots := 0, locals := 67 } : Room) (zPw D vwCl (zT y) (wR y a R) sz [.ref (a 0), .int (iZ (t : Int))]) (va_Qv (fun R' : Nat → Int → Int => Rel (waits f (t : Int)) R') (zB D vwCl (zT y) (wR y a R) sz (fun R' : Nat → Int → Int => wR y a R')) (va_A (wR y a R) sz)) 0 0 (va_A (wR y a R) sz) := by
  refine z_headW (cc := cX0_waitOrStart) (maxL := 3) (ret := none) [(0, .ref (a 0)), (1, .int (iZ (t : Int)))] rfl (Nat.le_of_ble_eq_true rfl) (by decide +kernel) rfl ?_
  intro pp ee ss mm below meth cd mx mb mr mml mo mts mlk hK hname hsz hA
  generalize ([.ref (a 0), .int (iZ (t : Int))] : List Value).toArray = args at mts ⊢
  obtain ⟨wst, hw0⟩ : ∃ wst, wst = wR y a R := ⟨_, rfl⟩
  have hA : ∀ q, ss.heap.size ≤ q → va_A wst sz q := by rw [hw0]; exact hA
  obtain ⟨Q, hQ⟩ : ∃ Q, Q = MQ below (va_Qv (fun R' : Nat → Int → Int => Rel (waits f (t : Int)) R') (zB D vwCl (zT y) wst sz (fun R' : Nat → Int → Int => wR y a R')) (va_A wst sz)) args ss 0 0 (va_A wst sz) := ⟨_, rfl⟩
  have hstart : Gz pp l ee ({ frames := 3, cells := 0, slots := 0, locals := 67 } : Room) ss mm args below meth cd 3 0 0 Q (Zw D vwCl (va_A wst sz) ss (wR y a R)) 0 [(0, .ref (a 0)), (1, .int (iZ (t : Int)))] [] := by
    obtain ⟨hW, hN, hT⟩ := hJ.f
    obtain ⟨kA, hG, hS⟩ := id kp
    obtain ⟨⟨r0, r1, r2, r3, r4⟩, rc, rb, ⟨s0, s1, s2, s3⟩, rt, rl⟩ := id hR
    obtain ⟨w0, w1, w2, w3, w4, w5, w6⟩ := id hW
    have et : ∀ k : Int, 0 ≤ k → k < 8 → R (8 + t) k = f (79 + 8 * (t : Int) + k) := rt t ht.1
    have q0 := w6 (t : Int) (by omega) (by omega)
    have ht4 : 0 ≤ (t : Int) ∧ (t : Int) < 4 := by omega
    obtain ⟨T1, T2, T3, T5, T7⟩ := hT (t : Int) ht4.1 ht4.2
    obtain ⟨n3, n4, n5, n6, n7, n8, n9, n10⟩ := id hN
    have wy : 0 ≤ whyOf f (t : Int) ∧ whyOf f (t : Int) ≤ 5 := (by have := holds_rng f (t : Int) (f (79 + 8 * (t : Int) + 5) + 1); unfold whyOf; split <;> (try split) <;> omega)
    refine z_aload_n mx mb dX0_waitOrStart_0 rfl 0 rfl ?_
    refine z_get (C := RX0) (T := TX0) (N := 9) mx mb mts (in_X0_waitOrStart_X0) mo hK zgw 0 wR_0 rfl 1 (by decide) (mts _ (List.mem_of_getElem? (i := 1) rfl)) (fun _ h9 => h9) rfl dX0_waitOrStart_1 ?_
    refine z_iload_n mx mb dX0_waitOrStart_4 rfl 1 rfl ?_
    refine z_aald (i := t) mx mb hK zgw 6 1 wR_6 rfl (by decide) (by omega) dX0_waitOrStart_5 ?_
    refine z_astore_n mx mb dX0_waitOrStart_6 rfl (by decide) [(2, .ref (a (8 + t))), (0, .ref (a 0)), (1, .int (iZ (t : Int)))] rfl ?_
    refine z_aload_n mx mb dX0_waitOrStart_7 rfl 1 rfl ?_
    refine z_aload_n mx mb dX0_waitOrStart_8 rfl 0 rfl ?_
    refine z_callP (As := [.ref (a (8 + t))]) (rest := []) ⟨mx, mb, mml, mo, mts⟩ hK zgw (c_X0_reasonOf l D y a R f t (by omega) (by omega) (by assumption) (by assumption) (by assumption) (by assumption) (by assumption)) (cwV 1 mts gX0_waitOrStart_X0_reasonOf rfl rfl rfl (by decide +kernel) ⟨Nat.le_of_ble_eq_true rfl, Nat.le_of_ble_eq_true rfl⟩) (fun _ h => h) 0 wR_0 rfl rfl rfl rfl (Nat.le_of_ble_eq_true rfl) ⟨Nat.zero_le _, Nat.zero_le _⟩ dX0_waitOrStart_9 ?_
    refine z_iconst mx mb dX0_waitOrStart_12 ?_
    refine z_icmp_eq (tgt := 27) mx mb (by omega) (by omega) dX0_waitOrStart_13 (by decide) (fun c13 => ?_) (fun c13 => ?_)
    · skip
      refine z_aload_n mx mb dX0_waitOrStart_27 rfl 0 rfl ?_
      refine z_callT (t := t) (As := []) (rest := []) (by omega) ⟨mx, mb, mml, mo, mts⟩ hK hA (fun sz => c_X3_start l D sz y (a (8 + t)) (R (8 + t))  ) (cwV 0 mts gX0_waitOrStart_X3_start rfl rfl rfl (by decide +kernel) ⟨Nat.le_of_ble_eq_true rfl, Nat.le_of_ble_eq_true rfl⟩) rfl rfl (Nat.le_of_ble_eq_true rfl) ⟨Nat.zero_le _, Nat.zero_le _⟩ dX0_waitOrStart_28 ?_
      have hR1 : Rel (runs (put f (t : Int) 5 (f (79 + 8 * (t : Int) + 5) + 1)) (t : Int)) (uc R (8 + t) (zu (zu (zu (zu (R (8 + t)) 1 25) 2 0) 4 0) 5 0)) := by exact rel_start hR hW ht.1
      generalize uc R (8 + t) (zu (zu (zu (zu (R (8 + t)) 1 25) 2 0) 4 0) 5 0) = R1 at hR1 ⊢
      obtain ⟨⟨r0, r1, r2, r3, r4⟩, rc, rb, ⟨s0, s1, s2, s3⟩, rt, rl⟩ := id hR1
      obtain ⟨g1, g2, g3, g4, g5, g6, g7⟩ := go_facts hJ hG ht4 (f (79 + 8 * (t : Int) + 5) + 1)
      have bb := blockAt_rng hW q0.1
      refine z_aload_n mx mb dX0_waitOrStart_31 rfl 1 rfl ?_
      refine z_aload_n mx mb dX0_waitOrStart_32 rfl 0 rfl ?_
      refine z_callP (As := [.ref (a (8 + t))]) (rest := []) ⟨mx, mb, mml, mo, mts⟩ hK zgw (c_X0_blockOf l D y a R1 (runs (put f (t : Int) 5 (f (79 + 8 * (t : Int) + 5) + 1)) (t : Int)) t (by omega) (by assumption) (by assumption)) (cwV 1 mts gX0_waitOrStart_X0_blockOf rfl rfl rfl (by decide +kernel) ⟨Nat.le_of_ble_eq_true rfl, Nat.le_of_ble_eq_true rfl⟩) (fun _ h => h) 0 wR_0 rfl rfl rfl rfl (Nat.le_of_ble_eq_true rfl) ⟨Nat.zero_le _, Nat.zero_le _⟩ dX0_waitOrStart_33 ?_
      refine z_top (show blockAt (runs (put f (t : Int) 5 (f (79 + 8 * (t : Int) + 5) + 1)) (t : Int)) ((runs (put f (t : Int) 5 (f (79 + 8 * (t : Int) + 5) + 1)) (t : Int)) (79 + 8 * (t : Int) + 0)) = blockAt f (f (79 + 8 * (t : Int) + 0)) from by exact g5) ?_
      refine z_if_ne (tgt := 44) mx mb (by omega) dX0_waitOrStart_36 (by decide) (fun c36 => ?_) (fun c36 => ?_)
      · skip
        rw [hQ]
        exact z_retV mx mb mr mlk hK R1 (by show Rel _ _; rw [waits_go hW ht4 hm n10 c13, if_neg c36]; exact hR1) rfl dX0_waitOrStart_44
      · skip
        refine z_aload_n mx mb dX0_waitOrStart_39 rfl 1 rfl ?_
        refine z_iload_n mx mb dX0_waitOrStart_40 rfl 2 rfl ?_
        refine z_callV0 (As := [.int (iZ (t : Int))]) (rest := []) ⟨mx, mb, mml, mo, mts⟩ hK hA (fun sz => c_X0_logDispatch l D sz y a R1 (runs (put f (t : Int) 5 (f (79 + 8 * (t : Int) + 5) + 1)) (t : Int)) (t : Int) (by assumption) (by assumption) (by assumption) (by assumption)) (cwV 1 mts gX0_waitOrStart_X0_logDispatch rfl rfl rfl (by decide +kernel) ⟨Nat.le_of_ble_eq_true rfl, Nat.le_of_ble_eq_true rfl⟩) 0 wR_0 rfl rfl rfl rfl (Nat.le_of_ble_eq_true rfl) ⟨Nat.zero_le _, Nat.zero_le _⟩ dX0_waitOrStart_41 (fun u41 hu41 => ?_)
        have hu41 : Rel (dispatches (runs (put f (t : Int) 5 (f (79 + 8 * (t : Int) + 5) + 1)) (t : Int)) (t : Int)) u41 := hu41
        show Gz pp l ee ({ frames := 3, cells := 0, slots := 0, locals := 67 } : Room) ss mm args below meth cd 3 0 0 Q (Zw D vwCl (va_A wst sz) ss (wR y a u41)) 44 [(2, .ref (a (8 + t))), (0, .ref (a 0)), (1, .int (iZ (t : Int)))] []
        rw [hQ]
        exact z_retV mx mb mr mlk hK u41 (by show Rel _ _; rw [waits_go hW ht4 hm n10 c13, if_pos c36]; assumption) rfl dX0_waitOrStart_44
    · skip
      refine z_aload_n mx mb dX0_waitOrStart_16 rfl 0 rfl ?_
      refine z_dup mx mb dX0_waitOrStart_17 rfl ?_
      refine z_get (C := RX3) (T := TX3) (N := 8) mx mb mts (in_X0_waitOrStart_X3) mo hK zgw (8 + t) (wR_t (by omega)) rfl 5 (by decide) (mts _ (List.mem_of_getElem? (i := 2) rfl)) (fun _ h9 => h9) rfl dX0_waitOrStart_18 ?_
      refine z_iconst mx mb dX0_waitOrStart_21 ?_
      refine z_iadd mx mb dX0_waitOrStart_22 ?_
      refine z_put (ty := .int) (C := RX3) (T := TX3) (N := 8) mx mb mts (in_X0_waitOrStart_X3) tyX3_ok nmX3 mo hK (8 + t) (wR_t (by omega)) rfl 5 (by decide) (mts _ (List.mem_of_getElem? (i := 2) rfl)) (fun _ h9 => h9) rfl (by decide +kernel) rfl rfl (Nat.le_of_ble_eq_true rfl) dX0_waitOrStart_23 (wR y a (uc R (8 + t) (zu (R (8 + t)) 5 ((R (8 + t) 5) + 1)))) (wR_stk (by omega) 5 (by decide)) ?_
      rw [hQ]
      exact z_retV mx mb mr mlk hK (uc R (8 + t) (zu (R (8 + t)) 5 ((R (8 + t) 5) + 1))) (by show Rel _ _; rw [waits_no hW ht4 hm c13, ← et 5 (by omega) (by omega)]; exact rel_put hR hW ht.1 (by omega)) rfl dX0_waitOrStart_26
  subst hQ
  subst hw0
  exact hstart

theorem in_X0_comeToBrake_X0 : ∀ w ∈ wsX00, w ∈ wsX0_comeToBrake := by decide +kernel
theorem in_X0_comeToBrake_X3 : ∀ w ∈ wsX30, w ∈ wsX0_comeToBrake := by decide +kernel
set_option maxRecDepth 100000 in
set_option maxHeartbeats 4000000 in
theorem c_X0_comeToBrake (l : Launch) (D : va_G) (sz : Nat) (y : Nat → ClassId) (a : Nat → Nat) (R : Nat → Int → Int) (f : Int → Int) (t : Nat) (ht : (t : Int) < f 2 ∧ t < 4) (aps : Ap (stands f (t : Int))) (hR : Rel f R) (hW : Wf f) : Met l yX0_comeToBrake wsX0_comeToBrake ({ frames := 2, cells := 0, slots := 0, locals := 44 } : Room) (zPw D vwCl (zT y) (wR y a R) sz [.ref (a 0), .ref (a (8 + t))]) (va_Qv (fun R' : Nat → Int → Int => Rel (comes f (t : Int)) R') (zB D vwCl (zT y) (wR y a R) sz (fun R' : Nat → Int → Int => wR y a R')) (va_A (wR y a R) sz)) 0 0 (va_A (wR y a R) sz) := by
  refine z_headW (cc := cX0_comeToBrake) (maxL := 3) (ret := none) [(0, .ref (a 0)), (1, .ref (a (8 + t)))] rfl (Nat.le_of_ble_eq_true rfl) (by decide +kernel) rfl ?_
  intro pp ee ss mm below meth cd mx mb mr mml mo mts mlk hK hname hsz hA
  generalize ([.ref (a 0), .ref (a (8 + t))] : List Value).toArray = args at mts ⊢
  obtain ⟨wst, hw0⟩ : ∃ wst, wst = wR y a R := ⟨_, rfl⟩
  have hA : ∀ q, ss.heap.size ≤ q → va_A wst sz q := by rw [hw0]; exact hA
  obtain ⟨Q, hQ⟩ : ∃ Q, Q = MQ below (va_Qv (fun R' : Nat → Int → Int => Rel (comes f (t : Int)) R') (zB D vwCl (zT y) wst sz (fun R' : Nat → Int → Int => wR y a R')) (va_A wst sz)) args ss 0 0 (va_A wst sz) := ⟨_, rfl⟩
  have hstart : Gz pp l ee ({ frames := 2, cells := 0, slots := 0, locals := 44 } : Room) ss mm args below meth cd 3 0 0 Q (Zw D vwCl (va_A wst sz) ss (wR y a R)) 0 [(0, .ref (a 0)), (1, .ref (a (8 + t)))] [] := by
    obtain ⟨⟨r0, r1, r2, r3, r4⟩, rc, rb, ⟨s0, s1, s2, s3⟩, rt, rl⟩ := id hR
    obtain ⟨w0, w1, w2, w3, w4, w5, w6⟩ := id hW
    have et : ∀ k : Int, 0 ≤ k → k < 8 → R (8 + t) k = f (79 + 8 * (t : Int) + k) := rt t ht.1
    have q0 := w6 (t : Int) (by omega) (by omega)
    have ht4 : 0 ≤ (t : Int) ∧ (t : Int) < 4 := by omega
    have hS := Wf_stands hW ht4
    have s2e : stands f (t : Int) 2 = f 2 := stands_2 ht4.1 (by omega)
    have s1e : stands f (t : Int) 1 = f 1 := stands_2 ht4.1 (by omega)
    have bb := blockAt_rng hW q0.1
    have w1 := hW.2.1
    have sb : blockAt (stands f (t : Int)) (stands f (t : Int) (79 + 8 * (t : Int) + 0)) = blockAt f (f (79 + 8 * (t : Int) + 0)) := by rw [stands_at0, blockAt_congr (f := f) (by omega) s1e (fun i _ _ => stands_2 ht4.1 (by omega))]
    refine z_aload_n mx mb dX0_comeToBrake_0 rfl 1 rfl ?_
    refine z_aload_n mx mb dX0_comeToBrake_1 rfl 1 rfl ?_
    refine z_get (C := RX3) (T := TX3) (N := 8) mx mb mts (in_X0_comeToBrake_X3) mo hK zgw (8 + t) (wR_t (by omega)) rfl 0 (by decide) (mts _ (List.mem_of_getElem? (i := 1) rfl)) (fun _ h9 => h9) rfl dX0_comeToBrake_2 ?_
    refine z_callT (t := t) (As := [.int (iZ (R (8 + t) 0))]) (rest := []) (by omega) ⟨mx, mb, mml, mo, mts⟩ hK hA (fun sz => c_X3_standOn l D sz y (a (8 + t)) (R (8 + t)) (R (8 + t) 0) ) (cwV 1 mts gX0_comeToBrake_X3_standOn rfl rfl rfl (by decide +kernel) ⟨Nat.le_of_ble_eq_true rfl, Nat.le_of_ble_eq_true rfl⟩) rfl rfl (Nat.le_of_ble_eq_true rfl) ⟨Nat.zero_le _, Nat.zero_le _⟩ dX0_comeToBrake_5 ?_
    have hR1 : Rel (stands f (t : Int)) (uc R (8 + t) (zu (zu (zu (zu (zu (R (8 + t)) 0 (R (8 + t) 0)) 1 0) 2 0) 4 1) 5 0)) := by exact rel_stand hR hW ht.1
    generalize uc R (8 + t) (zu (zu (zu (zu (zu (R (8 + t)) 0 (R (8 + t) 0)) 1 0) 2 0) 4 1) 5 0) = R1 at hR1 ⊢
    obtain ⟨⟨r0, r1, r2, r3, r4⟩, rc, rb, ⟨s0, s1, s2, s3⟩, rt, rl⟩ := id hR1
    refine z_aload_n mx mb dX0_comeToBrake_8 rfl 0 rfl ?_
    refine z_aload_n mx mb dX0_comeToBrake_9 rfl 1 rfl ?_
    refine z_callP (As := [.ref (a (8 + t))]) (rest := []) ⟨mx, mb, mml, mo, mts⟩ hK zgw (c_X0_blockOf l D y a R1 (stands f (t : Int)) t (by omega) (by assumption) (by assumption)) (cwV 1 mts gX0_comeToBrake_X0_blockOf rfl rfl rfl (by decide +kernel) ⟨Nat.le_of_ble_eq_true rfl, Nat.le_of_ble_eq_true rfl⟩) (fun _ h => h) 0 wR_0 rfl rfl rfl rfl (Nat.le_of_ble_eq_true rfl) ⟨Nat.zero_le _, Nat.zero_le _⟩ dX0_comeToBrake_10 ?_
    refine z_top (show blockAt (stands f (t : Int)) ((stands f (t : Int)) (79 + 8 * (t : Int) + 0)) = blockAt f (f (79 + 8 * (t : Int) + 0)) from by exact sb) ?_
    refine z_istore_n mx mb dX0_comeToBrake_13 rfl (by decide) [(2, .int (iZ (blockAt f (f (79 + 8 * (t : Int) + 0))))), (0, .ref (a 0)), (1, .ref (a (8 + t)))] rfl ?_
    refine z_iload_n mx mb dX0_comeToBrake_14 rfl 0 rfl ?_
    refine z_if_ne (tgt := 28) mx mb (by omega) dX0_comeToBrake_15 (by decide) (fun c15 => ?_) (fun c15 => ?_)
    · skip
      have hR2 : Rel (put (stands f (t : Int)) (t : Int) 7 (f (79 + 8 * (t : Int) + 7) + (if blockAt f (f (79 + 8 * (t : Int) + 0)) = 0 then 1 else 0))) R1 := by rw [if_neg c15, Int.add_zero]; exact rel_eq hR1 (zu_id stands_at7)
      generalize R1 = R2 at hR2 ⊢
      obtain ⟨⟨r0, r1, r2, r3, r4⟩, rc, rb, ⟨s0, s1, s2, s3⟩, rt, rl⟩ := id hR2
      obtain ⟨g1, g2, g3, g4, g5, g6, g7⟩ := come_facts hW ht4 aps (f (79 + 8 * (t : Int) + 7) + (if blockAt f (f (79 + 8 * (t : Int) + 0)) = 0 then 1 else 0))
      have nn := nextB_rng hW bb
      refine z_aload_n mx mb dX0_comeToBrake_28 rfl 1 rfl ?_
      refine z_aload_n mx mb dX0_comeToBrake_29 rfl 1 rfl ?_
      refine z_get (C := RX0) (T := TX0) (N := 9) mx mb mts (in_X0_comeToBrake_X0) mo hK zgw 0 wR_0 rfl 0 (by decide) (mts _ (List.mem_of_getElem? (i := 3) rfl)) (fun _ h9 => h9) rfl dX0_comeToBrake_30 ?_
      refine z_iload_n mx mb dX0_comeToBrake_33 rfl 0 rfl ?_
      refine z_callP (As := [.int (iZ (blockAt f (f (79 + 8 * (t : Int) + 0))))]) (rest := [.ref (a 0)]) ⟨mx, mb, mml, mo, mts⟩ hK zgw (c_X1_nextBlock l D y a R2 (put (stands f (t : Int)) (t : Int) 7 (f (79 + 8 * (t : Int) + 7) + (if blockAt f (f (79 + 8 * (t : Int) + 0)) = 0 then 1 else 0))) (blockAt f (f (79 + 8 * (t : Int) + 0))) (by omega) (by assumption) (by assumption)) (cwV 1 mts gX0_comeToBrake_X1_nextBlock rfl rfl rfl (by decide +kernel) ⟨Nat.le_of_ble_eq_true rfl, Nat.le_of_ble_eq_true rfl⟩) (fun _ h => h) 1 wR_1 rfl rfl rfl rfl (Nat.le_of_ble_eq_true rfl) ⟨Nat.zero_le _, Nat.zero_le _⟩ dX0_comeToBrake_34 ?_
      refine z_top (show nextB (put (stands f (t : Int)) (t : Int) 7 (f (79 + 8 * (t : Int) + 7) + (if blockAt f (f (79 + 8 * (t : Int) + 0)) = 0 then 1 else 0))) (blockAt f (f (79 + 8 * (t : Int) + 0))) = nextB f (blockAt f (f (79 + 8 * (t : Int) + 0))) from by exact g7 _) ?_
      refine z_callP (As := [.int (iZ (nextB f (blockAt f (f (79 + 8 * (t : Int) + 0)))))]) (rest := []) ⟨mx, mb, mml, mo, mts⟩ hK zgw (c_X0_isFree l D y a R2 (put (stands f (t : Int)) (t : Int) 7 (f (79 + 8 * (t : Int) + 7) + (if blockAt f (f (79 + 8 * (t : Int) + 0)) = 0 then 1 else 0))) (nextB f (blockAt f (f (79 + 8 * (t : Int) + 0)))) (by omega) (by assumption) (by assumption) (by assumption)) (cwV 1 mts gX0_comeToBrake_X0_isFree rfl rfl rfl (by decide +kernel) ⟨Nat.le_of_ble_eq_true rfl, Nat.le_of_ble_eq_true rfl⟩) (fun _ h => h) 0 wR_0 rfl rfl rfl rfl (Nat.le_of_ble_eq_true rfl) ⟨Nat.zero_le _, Nat.zero_le _⟩ dX0_comeToBrake_37 ?_
      refine z_if_ne (tgt := 53) mx mb (b2z_rng _) dX0_comeToBrake_40 (by decide) (fun c40 => ?_) (fun c40 => ?_)
      · skip
        rw [hQ]
        exact z_retV mx mb mr mlk hK R2 (by show Rel _ _; rw [comes_eq hW ht4, if_pos (show isFree (stands f (t : Int)) (nextB f (blockAt f (f (79 + 8 * (t : Int) + 0)))) = true from by rw [← g5]; exact b2z_ne c40)]; exact rel_eq hR2 (zu_id ((g6 _ (by omega)).trans (Int.add_zero _).symm))) rfl dX0_comeToBrake_53
      · skip
        refine z_aload_n mx mb dX0_comeToBrake_43 rfl 1 rfl ?_
        refine z_get (C := RX0) (T := TX0) (N := 9) mx mb mts (in_X0_comeToBrake_X0) mo hK zgw 0 wR_0 rfl 3 (by decide) (mts _ (List.mem_of_getElem? (i := 4) rfl)) (fun _ h9 => h9) rfl dX0_comeToBrake_44 ?_
        refine z_iload_n mx mb dX0_comeToBrake_47 rfl 0 rfl ?_
        refine z_dup2 mx mb dX0_comeToBrake_48 rfl rfl ?_
        refine z_iald mx mb hK zgw 12 0 wR_12 rfl (by decide) (by omega) dX0_comeToBrake_49 ?_
        refine z_top (show (R2 12) (blockAt f (f (79 + 8 * (t : Int) + 0))) = f (71 + blockAt f (f (79 + 8 * (t : Int) + 0))) from by rw [(rb _ bb.1 (by omega)).2]; exact g6 _ (by omega)) ?_
        refine z_iconst mx mb dX0_comeToBrake_50 ?_
        refine z_iadd mx mb dX0_comeToBrake_51 ?_
        refine z_iast mx mb hK 12 0 wR_12 rfl (by decide) (by omega) dX0_comeToBrake_52 (wR y a (uc R2 12 (zu (R2 12) (blockAt f (f (79 + 8 * (t : Int) + 0))) ((f (71 + blockAt f (f (79 + 8 * (t : Int) + 0)))) + 1)))) wR_s12 ?_
        rw [hQ]
        exact z_retV mx mb mr mlk hK (uc R2 12 (zu (R2 12) (blockAt f (f (79 + 8 * (t : Int) + 0))) ((f (71 + blockAt f (f (79 + 8 * (t : Int) + 0)))) + 1))) (by show Rel _ _; rw [comes_eq hW ht4, if_neg (show ¬ isFree (stands f (t : Int)) (nextB f (blockAt f (f (79 + 8 * (t : Int) + 0)))) = true from by rw [← g5]; exact b2z_e c40)]; exact rel_held hR2 g1 (by omega)) rfl dX0_comeToBrake_53
    · skip
      refine z_aload_n mx mb dX0_comeToBrake_18 rfl 2 rfl ?_
      refine z_dup mx mb dX0_comeToBrake_19 rfl ?_
      refine z_get (C := RX3) (T := TX3) (N := 8) mx mb mts (in_X0_comeToBrake_X3) mo hK zgw (8 + t) (wR_t (by omega)) rfl 7 (by decide) (mts _ (List.mem_of_getElem? (i := 2) rfl)) (fun _ h9 => h9) rfl dX0_comeToBrake_20 ?_
      refine z_iconst mx mb dX0_comeToBrake_23 ?_
      refine z_iadd mx mb dX0_comeToBrake_24 ?_
      refine z_put (ty := .int) (C := RX3) (T := TX3) (N := 8) mx mb mts (in_X0_comeToBrake_X3) tyX3_ok nmX3 mo hK (8 + t) (wR_t (by omega)) rfl 7 (by decide) (mts _ (List.mem_of_getElem? (i := 2) rfl)) (fun _ h9 => h9) rfl (by decide +kernel) rfl rfl (Nat.le_of_ble_eq_true rfl) dX0_comeToBrake_25 (wR y a (uc R1 (8 + t) (zu (R1 (8 + t)) 7 ((R1 (8 + t) 7) + 1)))) (wR_stk (by omega) 7 (by decide)) ?_
      have hR2 : Rel (put (stands f (t : Int)) (t : Int) 7 (f (79 + 8 * (t : Int) + 7) + (if blockAt f (f (79 + 8 * (t : Int) + 0)) = 0 then 1 else 0))) (uc R1 (8 + t) (zu (R1 (8 + t)) 7 ((R1 (8 + t) 7) + 1))) := by rw [if_pos c15, show f (79 + 8 * (t : Int) + 7) = stands f (t : Int) (79 + 8 * (t : Int) + 7) from stands_at7.symm, ← hR1.2.2.2.2.1 t (by omega) 7 (by omega) (by omega)]; exact rel_put hR1 hS (by omega) (by omega)
      generalize uc R1 (8 + t) (zu (R1 (8 + t)) 7 ((R1 (8 + t) 7) + 1)) = R2 at hR2 ⊢
      obtain ⟨⟨r0, r1, r2, r3, r4⟩, rc, rb, ⟨s0, s1, s2, s3⟩, rt, rl⟩ := id hR2
      obtain ⟨g1, g2, g3, g4, g5, g6, g7⟩ := come_facts hW ht4 aps (f (79 + 8 * (t : Int) + 7) + (if blockAt f (f (79 + 8 * (t : Int) + 0)) = 0 then 1 else 0))
      have nn := nextB_rng hW bb
      refine z_aload_n mx mb dX0_comeToBrake_28 rfl 1 rfl ?_
      refine z_aload_n mx mb dX0_comeToBrake_29 rfl 1 rfl ?_
      refine z_get (C := RX0) (T := TX0) (N := 9) mx mb mts (in_X0_comeToBrake_X0) mo hK zgw 0 wR_0 rfl 0 (by decide) (mts _ (List.mem_of_getElem? (i := 3) rfl)) (fun _ h9 => h9) rfl dX0_comeToBrake_30 ?_
      refine z_iload_n mx mb dX0_comeToBrake_33 rfl 0 rfl ?_
      refine z_callP (As := [.int (iZ (blockAt f (f (79 + 8 * (t : Int) + 0))))]) (rest := [.ref (a 0)]) ⟨mx, mb, mml, mo, mts⟩ hK zgw (c_X1_nextBlock l D y a R2 (put (stands f (t : Int)) (t : Int) 7 (f (79 + 8 * (t : Int) + 7) + (if blockAt f (f (79 + 8 * (t : Int) + 0)) = 0 then 1 else 0))) (blockAt f (f (79 + 8 * (t : Int) + 0))) (by omega) (by assumption) (by assumption)) (cwV 1 mts gX0_comeToBrake_X1_nextBlock rfl rfl rfl (by decide +kernel) ⟨Nat.le_of_ble_eq_true rfl, Nat.le_of_ble_eq_true rfl⟩) (fun _ h => h) 1 wR_1 rfl rfl rfl rfl (Nat.le_of_ble_eq_true rfl) ⟨Nat.zero_le _, Nat.zero_le _⟩ dX0_comeToBrake_34 ?_
      refine z_top (show nextB (put (stands f (t : Int)) (t : Int) 7 (f (79 + 8 * (t : Int) + 7) + (if blockAt f (f (79 + 8 * (t : Int) + 0)) = 0 then 1 else 0))) (blockAt f (f (79 + 8 * (t : Int) + 0))) = nextB f (blockAt f (f (79 + 8 * (t : Int) + 0))) from by exact g7 _) ?_
      refine z_callP (As := [.int (iZ (nextB f (blockAt f (f (79 + 8 * (t : Int) + 0)))))]) (rest := []) ⟨mx, mb, mml, mo, mts⟩ hK zgw (c_X0_isFree l D y a R2 (put (stands f (t : Int)) (t : Int) 7 (f (79 + 8 * (t : Int) + 7) + (if blockAt f (f (79 + 8 * (t : Int) + 0)) = 0 then 1 else 0))) (nextB f (blockAt f (f (79 + 8 * (t : Int) + 0)))) (by omega) (by assumption) (by assumption) (by assumption)) (cwV 1 mts gX0_comeToBrake_X0_isFree rfl rfl rfl (by decide +kernel) ⟨Nat.le_of_ble_eq_true rfl, Nat.le_of_ble_eq_true rfl⟩) (fun _ h => h) 0 wR_0 rfl rfl rfl rfl (Nat.le_of_ble_eq_true rfl) ⟨Nat.zero_le _, Nat.zero_le _⟩ dX0_comeToBrake_37 ?_
      refine z_if_ne (tgt := 53) mx mb (b2z_rng _) dX0_comeToBrake_40 (by decide) (fun c40 => ?_) (fun c40 => ?_)
      · skip
        rw [hQ]
        exact z_retV mx mb mr mlk hK R2 (by show Rel _ _; rw [comes_eq hW ht4, if_pos (show isFree (stands f (t : Int)) (nextB f (blockAt f (f (79 + 8 * (t : Int) + 0)))) = true from by rw [← g5]; exact b2z_ne c40)]; exact rel_eq hR2 (zu_id ((g6 _ (by omega)).trans (Int.add_zero _).symm))) rfl dX0_comeToBrake_53
      · skip
        refine z_aload_n mx mb dX0_comeToBrake_43 rfl 1 rfl ?_
        refine z_get (C := RX0) (T := TX0) (N := 9) mx mb mts (in_X0_comeToBrake_X0) mo hK zgw 0 wR_0 rfl 3 (by decide) (mts _ (List.mem_of_getElem? (i := 4) rfl)) (fun _ h9 => h9) rfl dX0_comeToBrake_44 ?_
        refine z_iload_n mx mb dX0_comeToBrake_47 rfl 0 rfl ?_
        refine z_dup2 mx mb dX0_comeToBrake_48 rfl rfl ?_
        refine z_iald mx mb hK zgw 12 0 wR_12 rfl (by decide) (by omega) dX0_comeToBrake_49 ?_
        refine z_top (show (R2 12) (blockAt f (f (79 + 8 * (t : Int) + 0))) = f (71 + blockAt f (f (79 + 8 * (t : Int) + 0))) from by rw [(rb _ bb.1 (by omega)).2]; exact g6 _ (by omega)) ?_
        refine z_iconst mx mb dX0_comeToBrake_50 ?_
        refine z_iadd mx mb dX0_comeToBrake_51 ?_
        refine z_iast mx mb hK 12 0 wR_12 rfl (by decide) (by omega) dX0_comeToBrake_52 (wR y a (uc R2 12 (zu (R2 12) (blockAt f (f (79 + 8 * (t : Int) + 0))) ((f (71 + blockAt f (f (79 + 8 * (t : Int) + 0)))) + 1)))) wR_s12 ?_
        rw [hQ]
        exact z_retV mx mb mr mlk hK (uc R2 12 (zu (R2 12) (blockAt f (f (79 + 8 * (t : Int) + 0))) ((f (71 + blockAt f (f (79 + 8 * (t : Int) + 0)))) + 1))) (by show Rel _ _; rw [comes_eq hW ht4, if_neg (show ¬ isFree (stands f (t : Int)) (nextB f (blockAt f (f (79 + 8 * (t : Int) + 0)))) = true from by rw [← g5]; exact b2z_e c40)]; exact rel_held hR2 g1 (by omega)) rfl dX0_comeToBrake_53
  subst hQ
  subst hw0
  exact hstart
