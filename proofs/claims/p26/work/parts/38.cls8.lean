theorem in_X3_init_X3 : ∀ w ∈ wsX30, w ∈ wsX3_init := by decide +kernel
set_option maxRecDepth 100000 in
set_option maxHeartbeats 4000000 in
theorem c_X3_init (l : Launch) (D : va_G) (sz : Nat) (y : Nat → ClassId) (b : Nat) (v : Int → Int)  : Met l yX3_init wsX3_init ({ frames := 1, cells := 0, slots := 0, locals := 20 } : Room) (zPw D vwCl (zT y) (wT b v) sz [.ref b]) (va_Qv (fun _ : Unit => True) (zB D vwCl (zT y) (wT b v) sz (fun _ => wT b (zu (zu (zu (zu (zu (zu (zu (zu v 0 0) 1 0) 2 0) 3 0) 4 1) 5 0) 6 0) 7 0))) (va_A (wT b v) sz)) 0 0 (va_A (wT b v) sz) := by
  refine z_headW (cc := cX3_init) (maxL := 1) (ret := none) [(0, .ref b)] rfl (Nat.le_of_ble_eq_true rfl) (by decide +kernel) rfl ?_
  intro pp ee ss mm below meth cd mx mb mr mml mo mts mlk hK hname hsz hA
  generalize ([.ref b] : List Value).toArray = args at mts ⊢
  obtain ⟨wst, hw0⟩ : ∃ wst, wst = wT b v := ⟨_, rfl⟩
  have hA : ∀ q, ss.heap.size ≤ q → va_A wst sz q := by rw [hw0]; exact hA
  obtain ⟨Q, hQ⟩ : ∃ Q, Q = MQ below (va_Qv (fun _ : Unit => True) (zB D vwCl (zT y) wst sz (fun _ => wT b (zu (zu (zu (zu (zu (zu (zu (zu v 0 0) 1 0) 2 0) 3 0) 4 1) 5 0) 6 0) 7 0))) (va_A wst sz)) args ss 0 0 (va_A wst sz) := ⟨_, rfl⟩
  have hstart : Gz pp l ee ({ frames := 1, cells := 0, slots := 0, locals := 20 } : Room) ss mm args below meth cd 1 0 0 Q (Zw D vwCl (va_A wst sz) ss (wT b v)) 0 [(0, .ref b)] [] := by
    refine z_aload_n mx mb dX3_init_0 rfl 0 rfl ?_
    refine z_oinit mx mb mml mo (mts _ (List.mem_of_getElem? (i := 1) rfl)) (mts _ (List.mem_of_getElem? (i := 2) rfl)) (mts _ (List.mem_of_getElem? (i := 3) rfl)) (Nat.le_of_ble_eq_true rfl) (Nat.le_of_ble_eq_true rfl) dX3_init_1 ?_
    refine z_aload_n mx mb dX3_init_4 rfl 0 rfl ?_
    refine z_iconst mx mb dX3_init_5 ?_
    refine z_put (ty := .int) (C := RX3) (T := TX3) (N := 8) mx mb mts (in_X3_init_X3) tyX3_ok nmX3 mo hK 0 wT_0 rfl 0 (by decide) (mts _ (List.mem_of_getElem? (i := 4) rfl)) (fun _ h9 => h9) rfl (by decide +kernel) rfl rfl (Nat.le_of_ble_eq_true rfl) dX3_init_6 (wT b (zu v 0 0)) (wT_s 0 (by decide)) ?_
    refine z_aload_n mx mb dX3_init_9 rfl 0 rfl ?_
    refine z_iconst mx mb dX3_init_10 ?_
    refine z_put (ty := .int) (C := RX3) (T := TX3) (N := 8) mx mb mts (in_X3_init_X3) tyX3_ok nmX3 mo hK 0 wT_0 rfl 1 (by decide) (mts _ (List.mem_of_getElem? (i := 5) rfl)) (fun _ h9 => h9) rfl (by decide +kernel) rfl rfl (Nat.le_of_ble_eq_true rfl) dX3_init_11 (wT b (zu (zu v 0 0) 1 0)) (wT_s 1 (by decide)) ?_
    refine z_aload_n mx mb dX3_init_14 rfl 0 rfl ?_
    refine z_iconst mx mb dX3_init_15 ?_
    refine z_put (ty := .int) (C := RX3) (T := TX3) (N := 8) mx mb mts (in_X3_init_X3) tyX3_ok nmX3 mo hK 0 wT_0 rfl 2 (by decide) (mts _ (List.mem_of_getElem? (i := 6) rfl)) (fun _ h9 => h9) rfl (by decide +kernel) rfl rfl (Nat.le_of_ble_eq_true rfl) dX3_init_16 (wT b (zu (zu (zu v 0 0) 1 0) 2 0)) (wT_s 2 (by decide)) ?_
    refine z_aload_n mx mb dX3_init_19 rfl 0 rfl ?_
    refine z_iconst mx mb dX3_init_20 ?_
    refine z_put (ty := .int) (C := RX3) (T := TX3) (N := 8) mx mb mts (in_X3_init_X3) tyX3_ok nmX3 mo hK 0 wT_0 rfl 3 (by decide) (mts _ (List.mem_of_getElem? (i := 7) rfl)) (fun _ h9 => h9) rfl (by decide +kernel) rfl rfl (Nat.le_of_ble_eq_true rfl) dX3_init_21 (wT b (zu (zu (zu (zu v 0 0) 1 0) 2 0) 3 0)) (wT_s 3 (by decide)) ?_
    refine z_aload_n mx mb dX3_init_24 rfl 0 rfl ?_
    refine z_iconst mx mb dX3_init_25 ?_
    refine z_put (ty := .int) (C := RX3) (T := TX3) (N := 8) mx mb mts (in_X3_init_X3) tyX3_ok nmX3 mo hK 0 wT_0 rfl 4 (by decide) (mts _ (List.mem_of_getElem? (i := 8) rfl)) (fun _ h9 => h9) rfl (by decide +kernel) rfl rfl (Nat.le_of_ble_eq_true rfl) dX3_init_26 (wT b (zu (zu (zu (zu (zu v 0 0) 1 0) 2 0) 3 0) 4 1)) (wT_s 4 (by decide)) ?_
    refine z_aload_n mx mb dX3_init_29 rfl 0 rfl ?_
    refine z_iconst mx mb dX3_init_30 ?_
    refine z_put (ty := .int) (C := RX3) (T := TX3) (N := 8) mx mb mts (in_X3_init_X3) tyX3_ok nmX3 mo hK 0 wT_0 rfl 5 (by decide) (mts _ (List.mem_of_getElem? (i := 9) rfl)) (fun _ h9 => h9) rfl (by decide +kernel) rfl rfl (Nat.le_of_ble_eq_true rfl) dX3_init_31 (wT b (zu (zu (zu (zu (zu (zu v 0 0) 1 0) 2 0) 3 0) 4 1) 5 0)) (wT_s 5 (by decide)) ?_
    refine z_aload_n mx mb dX3_init_34 rfl 0 rfl ?_
    refine z_iconst mx mb dX3_init_35 ?_
    refine z_put (ty := .int) (C := RX3) (T := TX3) (N := 8) mx mb mts (in_X3_init_X3) tyX3_ok nmX3 mo hK 0 wT_0 rfl 6 (by decide) (mts _ (List.mem_of_getElem? (i := 10) rfl)) (fun _ h9 => h9) rfl (by decide +kernel) rfl rfl (Nat.le_of_ble_eq_true rfl) dX3_init_36 (wT b (zu (zu (zu (zu (zu (zu (zu v 0 0) 1 0) 2 0) 3 0) 4 1) 5 0) 6 0)) (wT_s 6 (by decide)) ?_
    refine z_aload_n mx mb dX3_init_39 rfl 0 rfl ?_
    refine z_iconst mx mb dX3_init_40 ?_
    refine z_put (ty := .int) (C := RX3) (T := TX3) (N := 8) mx mb mts (in_X3_init_X3) tyX3_ok nmX3 mo hK 0 wT_0 rfl 7 (by decide) (mts _ (List.mem_of_getElem? (i := 11) rfl)) (fun _ h9 => h9) rfl (by decide +kernel) rfl rfl (Nat.le_of_ble_eq_true rfl) dX3_init_41 (wT b (zu (zu (zu (zu (zu (zu (zu (zu v 0 0) 1 0) 2 0) 3 0) 4 1) 5 0) 6 0) 7 0)) (wT_s 7 (by decide)) ?_
    rw [hQ]
    exact z_retV mx mb mr mlk hK () (by trivial) (by rfl) dX3_init_44
  subst hQ
  subst hw0
  exact hstart

theorem in_X1_init_X1 : ∀ w ∈ wsX10, w ∈ wsX1_init := by decide +kernel
set_option maxRecDepth 100000 in
set_option maxHeartbeats 4000000 in
theorem c_X1_init (l : Launch) (D : va_G) (sz : Nat) (y : Nat → ClassId) (b : Nat)  : Met l yX1_init wsX1_init ({ frames := 1, cells := 4, slots := 98, locals := 20 } : Room) (zPw D vwCl (zT y) ([(b, .inr (1, [.null, .null, .null, .null, .int (iZ 0), .int (iZ 0)]))] : va_W) sz [.ref b]) (va_Qv (fun _ : Nat × Nat × Nat × Nat => True) (zB D vwCl (zT y) ([(b, .inr (1, [.null, .null, .null, .null, .int (iZ 0), .int (iZ 0)]))] : va_W) sz (fun u : Nat × Nat × Nat × Nat => [(b, .inr (1, [.ref u.1, .ref u.2.1, .ref u.2.2.1, .ref u.2.2.2, .int (iZ 0), .int (iZ 0)])), (u.1, .inl (y 0, 30, .inl (zA (fun _ => 0)))), (u.2.1, .inl (y 0, 30, .inl (zA (fun _ => 0)))), (u.2.2.1, .inl (y 0, 30, .inl (zA (fun _ => 0)))), (u.2.2.2, .inl (y 0, 8, .inl (zA (fun _ => 0))))])) (va_A ([(b, .inr (1, [.null, .null, .null, .null, .int (iZ 0), .int (iZ 0)]))] : va_W) sz)) 4 98 (va_A ([(b, .inr (1, [.null, .null, .null, .null, .int (iZ 0), .int (iZ 0)]))] : va_W) sz) := by
  refine z_headW (cc := cX1_init) (maxL := 1) (ret := none) [(0, .ref b)] rfl (Nat.le_of_ble_eq_true rfl) (by decide +kernel) rfl ?_
  intro pp ee ss mm below meth cd mx mb mr mml mo mts mlk hK hname hsz hA
  generalize ([.ref b] : List Value).toArray = args at mts ⊢
  obtain ⟨wst, hw0⟩ : ∃ wst, wst = ([(b, .inr (1, [.null, .null, .null, .null, .int (iZ 0), .int (iZ 0)]))] : va_W) := ⟨_, rfl⟩
  have hA : ∀ q, ss.heap.size ≤ q → va_A wst sz q := by rw [hw0]; exact hA
  obtain ⟨Q, hQ⟩ : ∃ Q, Q = MQ below (va_Qv (fun _ : Nat × Nat × Nat × Nat => True) (zB D vwCl (zT y) wst sz (fun u : Nat × Nat × Nat × Nat => [(b, .inr (1, [.ref u.1, .ref u.2.1, .ref u.2.2.1, .ref u.2.2.2, .int (iZ 0), .int (iZ 0)])), (u.1, .inl (y 0, 30, .inl (zA (fun _ => 0)))), (u.2.1, .inl (y 0, 30, .inl (zA (fun _ => 0)))), (u.2.2.1, .inl (y 0, 30, .inl (zA (fun _ => 0)))), (u.2.2.2, .inl (y 0, 8, .inl (zA (fun _ => 0))))])) (va_A wst sz)) args ss 4 98 (va_A wst sz) := ⟨_, rfl⟩
  have hstart : Gz pp l ee ({ frames := 1, cells := 4, slots := 98, locals := 20 } : Room) ss mm args below meth cd 1 0 0 Q (Zw D vwCl (va_A wst sz) ss ([(b, .inr (1, [.null, .null, .null, .null, .int (iZ 0), .int (iZ 0)]))] : va_W)) 0 [(0, .ref b)] [] := by
    refine z_aload_n mx mb dX1_init_0 rfl 0 rfl ?_
    refine z_oinit mx mb mml mo (mts _ (List.mem_of_getElem? (i := 1) rfl)) (mts _ (List.mem_of_getElem? (i := 2) rfl)) (mts _ (List.mem_of_getElem? (i := 3) rfl)) (Nat.le_of_ble_eq_true rfl) (Nat.le_of_ble_eq_true rfl) dX1_init_1 ?_
    refine z_aload_n mx mb dX1_init_4 rfl 0 rfl ?_
    refine z_bipush mx mb dX1_init_5 (by decide +kernel) ?_
    refine z_newI (N := 30) mx mb (mts _ (List.mem_of_getElem? (i := 4) rfl)) hK hA 0 rfl rfl (by decide) (Nat.le_of_ble_eq_true rfl) (Nat.le_of_ble_eq_true rfl) dX1_init_7 (fun q7 => ?_)
    show Gz pp l ee ({ frames := 1, cells := 4, slots := 98, locals := 20 } : Room) ss mm args below meth cd 1 1 30 Q (Zw D vwCl (va_A wst sz) ss ([(b, .inr (1, [.null, .null, .null, .null, .int (iZ 0), .int (iZ 0)])), (q7, .inl (y 0, 30, .inl (zA (fun _ => 0))))] : va_W)) 9 [(0, .ref b)] [.ref q7, .ref b]
    refine z_putF (ty := .array .int) (C := RX1) (T := TX1) (N := 6) mx mb mts (in_X1_init_X1) tyX1_ok nmX1 mo hK 0 rfl rfl 0 (by decide) (mts _ (List.mem_of_getElem? (i := 5) rfl)) (fun _ h9 => h9) rfl hname rfl (by decide +kernel) rfl rfl (Nat.le_of_ble_eq_true rfl) dX1_init_9 ([(b, .inr (1, [.ref q7, .null, .null, .null, .int (iZ 0), .int (iZ 0)])), (q7, .inl (y 0, 30, .inl (zA (fun _ => 0))))] : va_W) rfl ?_
    refine z_aload_n mx mb dX1_init_12 rfl 0 rfl ?_
    refine z_bipush mx mb dX1_init_13 (by decide +kernel) ?_
    refine z_newI (N := 30) mx mb (mts _ (List.mem_of_getElem? (i := 4) rfl)) hK hA 0 rfl rfl (by decide) (Nat.le_of_ble_eq_true rfl) (Nat.le_of_ble_eq_true rfl) dX1_init_15 (fun q15 => ?_)
    show Gz pp l ee ({ frames := 1, cells := 4, slots := 98, locals := 20 } : Room) ss mm args below meth cd 1 2 60 Q (Zw D vwCl (va_A wst sz) ss ([(b, .inr (1, [.ref q7, .null, .null, .null, .int (iZ 0), .int (iZ 0)])), (q7, .inl (y 0, 30, .inl (zA (fun _ => 0)))), (q15, .inl (y 0, 30, .inl (zA (fun _ => 0))))] : va_W)) 17 [(0, .ref b)] [.ref q15, .ref b]
    refine z_putF (ty := .array .int) (C := RX1) (T := TX1) (N := 6) mx mb mts (in_X1_init_X1) tyX1_ok nmX1 mo hK 0 rfl rfl 1 (by decide) (mts _ (List.mem_of_getElem? (i := 6) rfl)) (fun _ h9 => h9) rfl hname rfl (by decide +kernel) rfl rfl (Nat.le_of_ble_eq_true rfl) dX1_init_17 ([(b, .inr (1, [.ref q7, .ref q15, .null, .null, .int (iZ 0), .int (iZ 0)])), (q7, .inl (y 0, 30, .inl (zA (fun _ => 0)))), (q15, .inl (y 0, 30, .inl (zA (fun _ => 0))))] : va_W) rfl ?_
    refine z_aload_n mx mb dX1_init_20 rfl 0 rfl ?_
    refine z_bipush mx mb dX1_init_21 (by decide +kernel) ?_
    refine z_newI (N := 30) mx mb (mts _ (List.mem_of_getElem? (i := 4) rfl)) hK hA 0 rfl rfl (by decide) (Nat.le_of_ble_eq_true rfl) (Nat.le_of_ble_eq_true rfl) dX1_init_23 (fun q23 => ?_)
    show Gz pp l ee ({ frames := 1, cells := 4, slots := 98, locals := 20 } : Room) ss mm args below meth cd 1 3 90 Q (Zw D vwCl (va_A wst sz) ss ([(b, .inr (1, [.ref q7, .ref q15, .null, .null, .int (iZ 0), .int (iZ 0)])), (q7, .inl (y 0, 30, .inl (zA (fun _ => 0)))), (q15, .inl (y 0, 30, .inl (zA (fun _ => 0)))), (q23, .inl (y 0, 30, .inl (zA (fun _ => 0))))] : va_W)) 25 [(0, .ref b)] [.ref q23, .ref b]
    refine z_putF (ty := .array .int) (C := RX1) (T := TX1) (N := 6) mx mb mts (in_X1_init_X1) tyX1_ok nmX1 mo hK 0 rfl rfl 2 (by decide) (mts _ (List.mem_of_getElem? (i := 7) rfl)) (fun _ h9 => h9) rfl hname rfl (by decide +kernel) rfl rfl (Nat.le_of_ble_eq_true rfl) dX1_init_25 ([(b, .inr (1, [.ref q7, .ref q15, .ref q23, .null, .int (iZ 0), .int (iZ 0)])), (q7, .inl (y 0, 30, .inl (zA (fun _ => 0)))), (q15, .inl (y 0, 30, .inl (zA (fun _ => 0)))), (q23, .inl (y 0, 30, .inl (zA (fun _ => 0))))] : va_W) rfl ?_
    refine z_aload_n mx mb dX1_init_28 rfl 0 rfl ?_
    refine z_bipush mx mb dX1_init_29 (by decide +kernel) ?_
    refine z_newI (N := 8) mx mb (mts _ (List.mem_of_getElem? (i := 4) rfl)) hK hA 0 rfl rfl (by decide) (Nat.le_of_ble_eq_true rfl) (Nat.le_of_ble_eq_true rfl) dX1_init_31 (fun q31 => ?_)
    show Gz pp l ee ({ frames := 1, cells := 4, slots := 98, locals := 20 } : Room) ss mm args below meth cd 1 4 98 Q (Zw D vwCl (va_A wst sz) ss ([(b, .inr (1, [.ref q7, .ref q15, .ref q23, .null, .int (iZ 0), .int (iZ 0)])), (q7, .inl (y 0, 30, .inl (zA (fun _ => 0)))), (q15, .inl (y 0, 30, .inl (zA (fun _ => 0)))), (q23, .inl (y 0, 30, .inl (zA (fun _ => 0)))), (q31, .inl (y 0, 8, .inl (zA (fun _ => 0))))] : va_W)) 33 [(0, .ref b)] [.ref q31, .ref b]
    refine z_putF (ty := .array .int) (C := RX1) (T := TX1) (N := 6) mx mb mts (in_X1_init_X1) tyX1_ok nmX1 mo hK 0 rfl rfl 3 (by decide) (mts _ (List.mem_of_getElem? (i := 8) rfl)) (fun _ h9 => h9) rfl hname rfl (by decide +kernel) rfl rfl (Nat.le_of_ble_eq_true rfl) dX1_init_33 ([(b, .inr (1, [.ref q7, .ref q15, .ref q23, .ref q31, .int (iZ 0), .int (iZ 0)])), (q7, .inl (y 0, 30, .inl (zA (fun _ => 0)))), (q15, .inl (y 0, 30, .inl (zA (fun _ => 0)))), (q23, .inl (y 0, 30, .inl (zA (fun _ => 0)))), (q31, .inl (y 0, 8, .inl (zA (fun _ => 0))))] : va_W) rfl ?_
    refine z_aload_n mx mb dX1_init_36 rfl 0 rfl ?_
    refine z_iconst mx mb dX1_init_37 ?_
    refine z_put (ty := .int) (C := RX1) (T := TX1) (N := 6) mx mb mts (in_X1_init_X1) tyX1_ok nmX1 mo hK 0 rfl rfl 4 (by decide) (mts _ (List.mem_of_getElem? (i := 9) rfl)) (fun _ h9 => h9) rfl (by decide +kernel) rfl rfl (Nat.le_of_ble_eq_true rfl) dX1_init_38 ([(b, .inr (1, [.ref q7, .ref q15, .ref q23, .ref q31, .int (iZ 0), .int (iZ 0)])), (q7, .inl (y 0, 30, .inl (zA (fun _ => 0)))), (q15, .inl (y 0, 30, .inl (zA (fun _ => 0)))), (q23, .inl (y 0, 30, .inl (zA (fun _ => 0)))), (q31, .inl (y 0, 8, .inl (zA (fun _ => 0))))] : va_W) rfl ?_
    refine z_aload_n mx mb dX1_init_41 rfl 0 rfl ?_
    refine z_iconst mx mb dX1_init_42 ?_
    refine z_put (ty := .int) (C := RX1) (T := TX1) (N := 6) mx mb mts (in_X1_init_X1) tyX1_ok nmX1 mo hK 0 rfl rfl 5 (by decide) (mts _ (List.mem_of_getElem? (i := 10) rfl)) (fun _ h9 => h9) rfl (by decide +kernel) rfl rfl (Nat.le_of_ble_eq_true rfl) dX1_init_43 ([(b, .inr (1, [.ref q7, .ref q15, .ref q23, .ref q31, .int (iZ 0), .int (iZ 0)])), (q7, .inl (y 0, 30, .inl (zA (fun _ => 0)))), (q15, .inl (y 0, 30, .inl (zA (fun _ => 0)))), (q23, .inl (y 0, 30, .inl (zA (fun _ => 0)))), (q31, .inl (y 0, 8, .inl (zA (fun _ => 0))))] : va_W) rfl ?_
    rw [hQ]
    exact z_retV mx mb mr mlk hK (q7, q15, q23, q31) (by trivial) rfl dX1_init_46
  subst hQ
  subst hw0
  exact hstart

theorem in_X2_init_X2 : ∀ w ∈ wsX20, w ∈ wsX2_init := by decide +kernel
set_option maxRecDepth 100000 in
set_option maxHeartbeats 4000000 in
theorem c_X2_init (l : Launch) (D : va_G) (sz : Nat) (y : Nat → ClassId) (b : Nat)  : Met l yX2_init wsX2_init ({ frames := 1, cells := 1, slots := 90, locals := 20 } : Room) (zPw D vwCl (zT y) ([(b, .inr (2, [.null, .int (iZ 0)]))] : va_W) sz [.ref b]) (va_Qv (fun _ : Nat => True) (zB D vwCl (zT y) ([(b, .inr (2, [.null, .int (iZ 0)]))] : va_W) sz (fun u : Nat => [(b, .inr (2, [.ref u, .int (iZ 0)])), (u, .inl (y 0, 90, .inl (zA (fun _ => 0))))])) (va_A ([(b, .inr (2, [.null, .int (iZ 0)]))] : va_W) sz)) 1 90 (va_A ([(b, .inr (2, [.null, .int (iZ 0)]))] : va_W) sz) := by
  refine z_headW (cc := cX2_init) (maxL := 1) (ret := none) [(0, .ref b)] rfl (Nat.le_of_ble_eq_true rfl) (by decide +kernel) rfl ?_
  intro pp ee ss mm below meth cd mx mb mr mml mo mts mlk hK hname hsz hA
  generalize ([.ref b] : List Value).toArray = args at mts ⊢
  obtain ⟨wst, hw0⟩ : ∃ wst, wst = ([(b, .inr (2, [.null, .int (iZ 0)]))] : va_W) := ⟨_, rfl⟩
  have hA : ∀ q, ss.heap.size ≤ q → va_A wst sz q := by rw [hw0]; exact hA
  obtain ⟨Q, hQ⟩ : ∃ Q, Q = MQ below (va_Qv (fun _ : Nat => True) (zB D vwCl (zT y) wst sz (fun u : Nat => [(b, .inr (2, [.ref u, .int (iZ 0)])), (u, .inl (y 0, 90, .inl (zA (fun _ => 0))))])) (va_A wst sz)) args ss 1 90 (va_A wst sz) := ⟨_, rfl⟩
  have hstart : Gz pp l ee ({ frames := 1, cells := 1, slots := 90, locals := 20 } : Room) ss mm args below meth cd 1 0 0 Q (Zw D vwCl (va_A wst sz) ss ([(b, .inr (2, [.null, .int (iZ 0)]))] : va_W)) 0 [(0, .ref b)] [] := by
    refine z_aload_n mx mb dX2_init_0 rfl 0 rfl ?_
    refine z_oinit mx mb mml mo (mts _ (List.mem_of_getElem? (i := 1) rfl)) (mts _ (List.mem_of_getElem? (i := 2) rfl)) (mts _ (List.mem_of_getElem? (i := 3) rfl)) (Nat.le_of_ble_eq_true rfl) (Nat.le_of_ble_eq_true rfl) dX2_init_1 ?_
    refine z_aload_n mx mb dX2_init_4 rfl 0 rfl ?_
    refine z_bipush mx mb dX2_init_5 (by decide +kernel) ?_
    refine z_newI (N := 90) mx mb (mts _ (List.mem_of_getElem? (i := 4) rfl)) hK hA 0 rfl rfl (by decide) (Nat.le_of_ble_eq_true rfl) (Nat.le_of_ble_eq_true rfl) dX2_init_7 (fun q7 => ?_)
    show Gz pp l ee ({ frames := 1, cells := 1, slots := 90, locals := 20 } : Room) ss mm args below meth cd 1 1 90 Q (Zw D vwCl (va_A wst sz) ss ([(b, .inr (2, [.null, .int (iZ 0)])), (q7, .inl (y 0, 90, .inl (zA (fun _ => 0))))] : va_W)) 9 [(0, .ref b)] [.ref q7, .ref b]
    refine z_putF (ty := .array .int) (C := RX2) (T := TX2) (N := 2) mx mb mts (in_X2_init_X2) tyX2_ok nmX2 mo hK 0 rfl rfl 0 (by decide) (mts _ (List.mem_of_getElem? (i := 5) rfl)) (fun _ h9 => h9) rfl hname rfl (by decide +kernel) rfl rfl (Nat.le_of_ble_eq_true rfl) dX2_init_9 ([(b, .inr (2, [.ref q7, .int (iZ 0)])), (q7, .inl (y 0, 90, .inl (zA (fun _ => 0))))] : va_W) rfl ?_
    refine z_aload_n mx mb dX2_init_12 rfl 0 rfl ?_
    refine z_iconst mx mb dX2_init_13 ?_
    refine z_put (ty := .int) (C := RX2) (T := TX2) (N := 2) mx mb mts (in_X2_init_X2) tyX2_ok nmX2 mo hK 0 rfl rfl 1 (by decide) (mts _ (List.mem_of_getElem? (i := 6) rfl)) (fun _ h9 => h9) rfl (by decide +kernel) rfl rfl (Nat.le_of_ble_eq_true rfl) dX2_init_14 ([(b, .inr (2, [.ref q7, .int (iZ 0)])), (q7, .inl (y 0, 90, .inl (zA (fun _ => 0))))] : va_W) rfl ?_
    rw [hQ]
    exact z_retV mx mb mr mlk hK q7 (by trivial) rfl dX2_init_17
  subst hQ
  subst hw0
  exact hstart
