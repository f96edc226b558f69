theorem in_X3_lie_X3 : ∀ w ∈ wsX30, w ∈ wsX3_lie := by decide +kernel
set_option maxRecDepth 100000 in
set_option maxHeartbeats 4000000 in
theorem c_X3_lie (l : Launch) (D : va_G) (sz : Nat) (y : Nat → ClassId) (b : Nat) (v : Int → Int)  : Met l yX3_lie wsX3_lie ({ frames := 0, cells := 0, slots := 0, locals := 0 } : Room) (zPw D vwCl (zT y) (wT b v) sz [.ref b]) (va_Qv (fun _ : Unit => True) (zB D vwCl (zT y) (wT b v) sz (fun _ => wT b (zu (zu (zu v 1 0) 2 0) 4 2))) (va_A (wT b v) sz)) 0 0 (va_A (wT b v) sz) := by
  refine z_headW (cc := cX3_lie) (maxL := 1) (ret := none) [(0, .ref b)] rfl (Nat.le_of_ble_eq_true rfl) (by decide +kernel) rfl ?_
  intro pp ee ss mm below meth cd mx mb mr mml mo mts mlk hK hname hsz hA
  generalize ([.ref b] : List Value).toArray = args at mts ⊢
  obtain ⟨wst, hw0⟩ : ∃ wst, wst = wT b v := ⟨_, rfl⟩
  have hA : ∀ q, ss.heap.size ≤ q → va_A wst sz q := by rw [hw0]; exact hA
  obtain ⟨Q, hQ⟩ : ∃ Q, Q = MQ below (va_Qv (fun _ : Unit => True) (zB D vwCl (zT y) wst sz (fun _ => wT b (zu (zu (zu v 1 0) 2 0) 4 2))) (va_A wst sz)) args ss 0 0 (va_A wst sz) := ⟨_, rfl⟩
  have hstart : Gz pp l ee ({ frames := 0, cells := 0, slots := 0, locals := 0 } : Room) ss mm args below meth cd 1 0 0 Q (Zw D vwCl (va_A wst sz) ss (wT b v)) 0 [(0, .ref b)] [] := by
    refine z_aload_n mx mb dX3_lie_0 rfl 0 rfl ?_
    refine z_iconst mx mb dX3_lie_1 ?_
    refine z_put (ty := .int) (C := RX3) (T := TX3) (N := 8) mx mb mts (in_X3_lie_X3) tyX3_ok nmX3 mo hK 0 wT_0 rfl 1 (by decide) (mts _ (List.mem_of_getElem? (i := 1) rfl)) (fun _ h9 => h9) rfl (by decide +kernel) rfl rfl (Nat.le_of_ble_eq_true rfl) dX3_lie_2 (wT b (zu v 1 0)) (wT_s 1 (by decide)) ?_
    refine z_aload_n mx mb dX3_lie_5 rfl 0 rfl ?_
    refine z_iconst mx mb dX3_lie_6 ?_
    refine z_put (ty := .int) (C := RX3) (T := TX3) (N := 8) mx mb mts (in_X3_lie_X3) tyX3_ok nmX3 mo hK 0 wT_0 rfl 2 (by decide) (mts _ (List.mem_of_getElem? (i := 2) rfl)) (fun _ h9 => h9) rfl (by decide +kernel) rfl rfl (Nat.le_of_ble_eq_true rfl) dX3_lie_7 (wT b (zu (zu v 1 0) 2 0)) (wT_s 2 (by decide)) ?_
    refine z_aload_n mx mb dX3_lie_10 rfl 0 rfl ?_
    refine z_iconst mx mb dX3_lie_11 ?_
    refine z_put (ty := .int) (C := RX3) (T := TX3) (N := 8) mx mb mts (in_X3_lie_X3) tyX3_ok nmX3 mo hK 0 wT_0 rfl 4 (by decide) (mts _ (List.mem_of_getElem? (i := 3) rfl)) (fun _ h9 => h9) rfl (by decide +kernel) rfl rfl (Nat.le_of_ble_eq_true rfl) dX3_lie_12 (wT b (zu (zu (zu v 1 0) 2 0) 4 2)) (wT_s 4 (by decide)) ?_
    rw [hQ]
    exact z_retV mx mb mr mlk hK () (by trivial) (by rfl) dX3_lie_15
  subst hQ
  subst hw0
  exact hstart

theorem in_X3_start_X3 : ∀ w ∈ wsX30, w ∈ wsX3_start := by decide +kernel
set_option maxRecDepth 100000 in
set_option maxHeartbeats 4000000 in
theorem c_X3_start (l : Launch) (D : va_G) (sz : Nat) (y : Nat → ClassId) (b : Nat) (v : Int → Int)  : Met l yX3_start wsX3_start ({ frames := 0, cells := 0, slots := 0, locals := 0 } : Room) (zPw D vwCl (zT y) (wT b v) sz [.ref b]) (va_Qv (fun _ : Unit => True) (zB D vwCl (zT y) (wT b v) sz (fun _ => wT b (zu (zu (zu (zu v 1 25) 2 0) 4 0) 5 0))) (va_A (wT b v) sz)) 0 0 (va_A (wT b v) sz) := by
  refine z_headW (cc := cX3_start) (maxL := 1) (ret := none) [(0, .ref b)] rfl (Nat.le_of_ble_eq_true rfl) (by decide +kernel) rfl ?_
  intro pp ee ss mm below meth cd mx mb mr mml mo mts mlk hK hname hsz hA
  generalize ([.ref b] : List Value).toArray = args at mts ⊢
  obtain ⟨wst, hw0⟩ : ∃ wst, wst = wT b v := ⟨_, rfl⟩
  have hA : ∀ q, ss.heap.size ≤ q → va_A wst sz q := by rw [hw0]; exact hA
  obtain ⟨Q, hQ⟩ : ∃ Q, Q = MQ below (va_Qv (fun _ : Unit => True) (zB D vwCl (zT y) wst sz (fun _ => wT b (zu (zu (zu (zu v 1 25) 2 0) 4 0) 5 0))) (va_A wst sz)) args ss 0 0 (va_A wst sz) := ⟨_, rfl⟩
  have hstart : Gz pp l ee ({ frames := 0, cells := 0, slots := 0, locals := 0 } : Room) ss mm args below meth cd 1 0 0 Q (Zw D vwCl (va_A wst sz) ss (wT b v)) 0 [(0, .ref b)] [] := by
    refine z_aload_n mx mb dX3_start_0 rfl 0 rfl ?_
    refine z_bipush mx mb dX3_start_1 (by decide +kernel) ?_
    refine z_put (ty := .int) (C := RX3) (T := TX3) (N := 8) mx mb mts (in_X3_start_X3) tyX3_ok nmX3 mo hK 0 wT_0 rfl 1 (by decide) (mts _ (List.mem_of_getElem? (i := 1) rfl)) (fun _ h9 => h9) rfl (by decide +kernel) rfl rfl (Nat.le_of_ble_eq_true rfl) dX3_start_3 (wT b (zu v 1 25)) (wT_s 1 (by decide)) ?_
    refine z_aload_n mx mb dX3_start_6 rfl 0 rfl ?_
    refine z_iconst mx mb dX3_start_7 ?_
    refine z_put (ty := .int) (C := RX3) (T := TX3) (N := 8) mx mb mts (in_X3_start_X3) tyX3_ok nmX3 mo hK 0 wT_0 rfl 2 (by decide) (mts _ (List.mem_of_getElem? (i := 2) rfl)) (fun _ h9 => h9) rfl (by decide +kernel) rfl rfl (Nat.le_of_ble_eq_true rfl) dX3_start_8 (wT b (zu (zu v 1 25) 2 0)) (wT_s 2 (by decide)) ?_
    refine z_aload_n mx mb dX3_start_11 rfl 0 rfl ?_
    refine z_iconst mx mb dX3_start_12 ?_
    refine z_put (ty := .int) (C := RX3) (T := TX3) (N := 8) mx mb mts (in_X3_start_X3) tyX3_ok nmX3 mo hK 0 wT_0 rfl 4 (by decide) (mts _ (List.mem_of_getElem? (i := 3) rfl)) (fun _ h9 => h9) rfl (by decide +kernel) rfl rfl (Nat.le_of_ble_eq_true rfl) dX3_start_13 (wT b (zu (zu (zu v 1 25) 2 0) 4 0)) (wT_s 4 (by decide)) ?_
    refine z_aload_n mx mb dX3_start_16 rfl 0 rfl ?_
    refine z_iconst mx mb dX3_start_17 ?_
    refine z_put (ty := .int) (C := RX3) (T := TX3) (N := 8) mx mb mts (in_X3_start_X3) tyX3_ok nmX3 mo hK 0 wT_0 rfl 5 (by decide) (mts _ (List.mem_of_getElem? (i := 4) rfl)) (fun _ h9 => h9) rfl (by decide +kernel) rfl rfl (Nat.le_of_ble_eq_true rfl) dX3_start_18 (wT b (zu (zu (zu (zu v 1 25) 2 0) 4 0) 5 0)) (wT_s 5 (by decide)) ?_
    rw [hQ]
    exact z_retV mx mb mr mlk hK () (by trivial) (by rfl) dX3_start_21
  subst hQ
  subst hw0
  exact hstart

theorem in_X3_moveTo_X3 : ∀ w ∈ wsX30, w ∈ wsX3_moveTo := by decide +kernel
set_option maxRecDepth 100000 in
set_option maxHeartbeats 4000000 in
theorem c_X3_moveTo (l : Launch) (D : va_G) (sz : Nat) (y : Nat → ClassId) (b : Nat) (v : Int → Int) (c sq : Int)  : Met l yX3_moveTo wsX3_moveTo ({ frames := 0, cells := 0, slots := 0, locals := 0 } : Room) (zPw D vwCl (zT y) (wT b v) sz [.ref b, .int (iZ c), .int (iZ sq)]) (va_Qv (fun _ : Unit => True) (zB D vwCl (zT y) (wT b v) sz (fun _ => wT b (zu (zu (zu v 0 c) 1 sq) 6 (v 6 + 1)))) (va_A (wT b v) sz)) 0 0 (va_A (wT b v) sz) := by
  refine z_headW (cc := cX3_moveTo) (maxL := 3) (ret := none) [(0, .ref b), (1, .int (iZ c)), (2, .int (iZ sq))] rfl (Nat.le_of_ble_eq_true rfl) (by decide +kernel) rfl ?_
  intro pp ee ss mm below meth cd mx mb mr mml mo mts mlk hK hname hsz hA
  generalize ([.ref b, .int (iZ c), .int (iZ sq)] : List Value).toArray = args at mts ⊢
  obtain ⟨wst, hw0⟩ : ∃ wst, wst = wT b v := ⟨_, rfl⟩
  have hA : ∀ q, ss.heap.size ≤ q → va_A wst sz q := by rw [hw0]; exact hA
  obtain ⟨Q, hQ⟩ : ∃ Q, Q = MQ below (va_Qv (fun _ : Unit => True) (zB D vwCl (zT y) wst sz (fun _ => wT b (zu (zu (zu v 0 c) 1 sq) 6 (v 6 + 1)))) (va_A wst sz)) args ss 0 0 (va_A wst sz) := ⟨_, rfl⟩
  have hstart : Gz pp l ee ({ frames := 0, cells := 0, slots := 0, locals := 0 } : Room) ss mm args below meth cd 3 0 0 Q (Zw D vwCl (va_A wst sz) ss (wT b v)) 0 [(0, .ref b), (1, .int (iZ c)), (2, .int (iZ sq))] [] := by
    refine z_aload_n mx mb dX3_moveTo_0 rfl 0 rfl ?_
    refine z_iload_n mx mb dX3_moveTo_1 rfl 1 rfl ?_
    refine z_put (ty := .int) (C := RX3) (T := TX3) (N := 8) mx mb mts (in_X3_moveTo_X3) tyX3_ok nmX3 mo hK 0 wT_0 rfl 0 (by decide) (mts _ (List.mem_of_getElem? (i := 1) rfl)) (fun _ h9 => h9) rfl (by decide +kernel) rfl rfl (Nat.le_of_ble_eq_true rfl) dX3_moveTo_2 (wT b (zu v 0 c)) (wT_s 0 (by decide)) ?_
    refine z_aload_n mx mb dX3_moveTo_5 rfl 0 rfl ?_
    refine z_iload_n mx mb dX3_moveTo_6 rfl 2 rfl ?_
    refine z_put (ty := .int) (C := RX3) (T := TX3) (N := 8) mx mb mts (in_X3_moveTo_X3) tyX3_ok nmX3 mo hK 0 wT_0 rfl 1 (by decide) (mts _ (List.mem_of_getElem? (i := 2) rfl)) (fun _ h9 => h9) rfl (by decide +kernel) rfl rfl (Nat.le_of_ble_eq_true rfl) dX3_moveTo_7 (wT b (zu (zu v 0 c) 1 sq)) (wT_s 1 (by decide)) ?_
    refine z_aload_n mx mb dX3_moveTo_10 rfl 0 rfl ?_
    refine z_dup mx mb dX3_moveTo_11 rfl ?_
    refine z_get (C := RX3) (T := TX3) (N := 8) mx mb mts (in_X3_moveTo_X3) mo hK zgw 0 wT_0 rfl 6 (by decide) (mts _ (List.mem_of_getElem? (i := 3) rfl)) (fun _ h9 => h9) rfl dX3_moveTo_12 ?_
    refine z_top (show (zu (zu v 0 c) 1 sq) 6 = v 6 from by rw [zu_n (by omega), zu_n (by omega)]) ?_
    refine z_iconst mx mb dX3_moveTo_15 ?_
    refine z_iadd mx mb dX3_moveTo_16 ?_
    refine z_put (ty := .int) (C := RX3) (T := TX3) (N := 8) mx mb mts (in_X3_moveTo_X3) tyX3_ok nmX3 mo hK 0 wT_0 rfl 6 (by decide) (mts _ (List.mem_of_getElem? (i := 3) rfl)) (fun _ h9 => h9) rfl (by decide +kernel) rfl rfl (Nat.le_of_ble_eq_true rfl) dX3_moveTo_17 (wT b (zu (zu (zu v 0 c) 1 sq) 6 ((v 6) + 1))) (wT_s 6 (by decide)) ?_
    rw [hQ]
    exact z_retV mx mb mr mlk hK () (by trivial) (by rfl) dX3_moveTo_20
  subst hQ
  subst hw0
  exact hstart

theorem in_X3_standOn_X3 : ∀ w ∈ wsX30, w ∈ wsX3_standOn := by decide +kernel
set_option maxRecDepth 100000 in
set_option maxHeartbeats 4000000 in
theorem c_X3_standOn (l : Launch) (D : va_G) (sz : Nat) (y : Nat → ClassId) (b : Nat) (v : Int → Int) (c : Int)  : Met l yX3_standOn wsX3_standOn ({ frames := 0, cells := 0, slots := 0, locals := 0 } : Room) (zPw D vwCl (zT y) (wT b v) sz [.ref b, .int (iZ c)]) (va_Qv (fun _ : Unit => True) (zB D vwCl (zT y) (wT b v) sz (fun _ => wT b (zu (zu (zu (zu (zu v 0 c) 1 0) 2 0) 4 1) 5 0))) (va_A (wT b v) sz)) 0 0 (va_A (wT b v) sz) := by
  refine z_headW (cc := cX3_standOn) (maxL := 2) (ret := none) [(0, .ref b), (1, .int (iZ c))] rfl (Nat.le_of_ble_eq_true rfl) (by decide +kernel) rfl ?_
  intro pp ee ss mm below meth cd mx mb mr mml mo mts mlk hK hname hsz hA
  generalize ([.ref b, .int (iZ c)] : List Value).toArray = args at mts ⊢
  obtain ⟨wst, hw0⟩ : ∃ wst, wst = wT b v := ⟨_, rfl⟩
  have hA : ∀ q, ss.heap.size ≤ q → va_A wst sz q := by rw [hw0]; exact hA
  obtain ⟨Q, hQ⟩ : ∃ Q, Q = MQ below (va_Qv (fun _ : Unit => True) (zB D vwCl (zT y) wst sz (fun _ => wT b (zu (zu (zu (zu (zu v 0 c) 1 0) 2 0) 4 1) 5 0))) (va_A wst sz)) args ss 0 0 (va_A wst sz) := ⟨_, rfl⟩
  have hstart : Gz pp l ee ({ frames := 0, cells := 0, slots := 0, locals := 0 } : Room) ss mm args below meth cd 2 0 0 Q (Zw D vwCl (va_A wst sz) ss (wT b v)) 0 [(0, .ref b), (1, .int (iZ c))] [] := by
    refine z_aload_n mx mb dX3_standOn_0 rfl 0 rfl ?_
    refine z_iload_n mx mb dX3_standOn_1 rfl 1 rfl ?_
    refine z_put (ty := .int) (C := RX3) (T := TX3) (N := 8) mx mb mts (in_X3_standOn_X3) tyX3_ok nmX3 mo hK 0 wT_0 rfl 0 (by decide) (mts _ (List.mem_of_getElem? (i := 1) rfl)) (fun _ h9 => h9) rfl (by decide +kernel) rfl rfl (Nat.le_of_ble_eq_true rfl) dX3_standOn_2 (wT b (zu v 0 c)) (wT_s 0 (by decide)) ?_
    refine z_aload_n mx mb dX3_standOn_5 rfl 0 rfl ?_
    refine z_iconst mx mb dX3_standOn_6 ?_
    refine z_put (ty := .int) (C := RX3) (T := TX3) (N := 8) mx mb mts (in_X3_standOn_X3) tyX3_ok nmX3 mo hK 0 wT_0 rfl 1 (by decide) (mts _ (List.mem_of_getElem? (i := 2) rfl)) (fun _ h9 => h9) rfl (by decide +kernel) rfl rfl (Nat.le_of_ble_eq_true rfl) dX3_standOn_7 (wT b (zu (zu v 0 c) 1 0)) (wT_s 1 (by decide)) ?_
    refine z_aload_n mx mb dX3_standOn_10 rfl 0 rfl ?_
    refine z_iconst mx mb dX3_standOn_11 ?_
    refine z_put (ty := .int) (C := RX3) (T := TX3) (N := 8) mx mb mts (in_X3_standOn_X3) tyX3_ok nmX3 mo hK 0 wT_0 rfl 2 (by decide) (mts _ (List.mem_of_getElem? (i := 3) rfl)) (fun _ h9 => h9) rfl (by decide +kernel) rfl rfl (Nat.le_of_ble_eq_true rfl) dX3_standOn_12 (wT b (zu (zu (zu v 0 c) 1 0) 2 0)) (wT_s 2 (by decide)) ?_
    refine z_aload_n mx mb dX3_standOn_15 rfl 0 rfl ?_
    refine z_iconst mx mb dX3_standOn_16 ?_
    refine z_put (ty := .int) (C := RX3) (T := TX3) (N := 8) mx mb mts (in_X3_standOn_X3) tyX3_ok nmX3 mo hK 0 wT_0 rfl 4 (by decide) (mts _ (List.mem_of_getElem? (i := 4) rfl)) (fun _ h9 => h9) rfl (by decide +kernel) rfl rfl (Nat.le_of_ble_eq_true rfl) dX3_standOn_17 (wT b (zu (zu (zu (zu v 0 c) 1 0) 2 0) 4 1)) (wT_s 4 (by decide)) ?_
    refine z_aload_n mx mb dX3_standOn_20 rfl 0 rfl ?_
    refine z_iconst mx mb dX3_standOn_21 ?_
    refine z_put (ty := .int) (C := RX3) (T := TX3) (N := 8) mx mb mts (in_X3_standOn_X3) tyX3_ok nmX3 mo hK 0 wT_0 rfl 5 (by decide) (mts _ (List.mem_of_getElem? (i := 5) rfl)) (fun _ h9 => h9) rfl (by decide +kernel) rfl rfl (Nat.le_of_ble_eq_true rfl) dX3_standOn_22 (wT b (zu (zu (zu (zu (zu v 0 c) 1 0) 2 0) 4 1) 5 0)) (wT_s 5 (by decide)) ?_
    rw [hQ]
    exact z_retV mx mb mr mlk hK () (by trivial) (by rfl) dX3_standOn_25
  subst hQ
  subst hw0
  exact hstart

theorem in_X3_begin_X3 : ∀ w ∈ wsX30, w ∈ wsX3_begin := by decide +kernel
set_option maxRecDepth 100000 in
set_option maxHeartbeats 4000000 in
theorem c_X3_begin (l : Launch) (D : va_G) (sz : Nat) (y : Nat → ClassId) (b : Nat) (v : Int → Int) (c w : Int)  : Met l yX3_begin wsX3_begin ({ frames := 1, cells := 0, slots := 0, locals := 21 } : Room) (zPw D vwCl (zT y) (wT b v) sz [.ref b, .int (iZ c), .int (iZ w)]) (va_Qv (fun _ : Unit => True) (zB D vwCl (zT y) (wT b v) sz (fun _ => wT b (zu (zu (zu (zu (zu (zu (zu (zu v 0 c) 1 0) 2 0) 4 1) 5 0) 3 w) 6 0) 7 0))) (va_A (wT b v) sz)) 0 0 (va_A (wT b v) sz) := by
  refine z_headW (cc := cX3_begin) (maxL := 3) (ret := none) [(0, .ref b), (1, .int (iZ c)), (2, .int (iZ w))] rfl (Nat.le_of_ble_eq_true rfl) (by decide +kernel) rfl ?_
  intro pp ee ss mm below meth cd mx mb mr mml mo mts mlk hK hname hsz hA
  generalize ([.ref b, .int (iZ c), .int (iZ w)] : List Value).toArray = args at mts ⊢
  obtain ⟨wst, hw0⟩ : ∃ wst, wst = wT b v := ⟨_, rfl⟩
  have hA : ∀ q, ss.heap.size ≤ q → va_A wst sz q := by rw [hw0]; exact hA
  obtain ⟨Q, hQ⟩ : ∃ Q, Q = MQ below (va_Qv (fun _ : Unit => True) (zB D vwCl (zT y) wst sz (fun _ => wT b (zu (zu (zu (zu (zu (zu (zu (zu v 0 c) 1 0) 2 0) 4 1) 5 0) 3 w) 6 0) 7 0))) (va_A wst sz)) args ss 0 0 (va_A wst sz) := ⟨_, rfl⟩
  have hstart : Gz pp l ee ({ frames := 1, cells := 0, slots := 0, locals := 21 } : Room) ss mm args below meth cd 3 0 0 Q (Zw D vwCl (va_A wst sz) ss (wT b v)) 0 [(0, .ref b), (1, .int (iZ c)), (2, .int (iZ w))] [] := by
    refine z_aload_n mx mb dX3_begin_0 rfl 0 rfl ?_
    refine z_iload_n mx mb dX3_begin_1 rfl 1 rfl ?_
    refine z_callV0 (As := [.int (iZ c)]) (rest := []) ⟨mx, mb, mml, mo, mts⟩ hK hA (fun sz => c_X3_standOn l D sz y b v c ) (cwV 1 mts gX3_begin_X3_standOn rfl rfl rfl (by decide +kernel) ⟨Nat.le_of_ble_eq_true rfl, Nat.le_of_ble_eq_true rfl⟩) 0 wT_0 rfl rfl rfl rfl (Nat.le_of_ble_eq_true rfl) ⟨Nat.zero_le _, Nat.zero_le _⟩ dX3_begin_2 (fun u2 hu2 => ?_)
    show Gz pp l ee ({ frames := 1, cells := 0, slots := 0, locals := 21 } : Room) ss mm args below meth cd 3 0 0 Q (Zw D vwCl (va_A wst sz) ss (wT b (zu (zu (zu (zu (zu v 0 c) 1 0) 2 0) 4 1) 5 0))) 5 [(0, .ref b), (1, .int (iZ c)), (2, .int (iZ w))] []
    refine z_aload_n mx mb dX3_begin_5 rfl 0 rfl ?_
    refine z_iload_n mx mb dX3_begin_6 rfl 2 rfl ?_
    refine z_put (ty := .int) (C := RX3) (T := TX3) (N := 8) mx mb mts (in_X3_begin_X3) tyX3_ok nmX3 mo hK 0 wT_0 rfl 3 (by decide) (mts _ (List.mem_of_getElem? (i := 1) rfl)) (fun _ h9 => h9) rfl (by decide +kernel) rfl rfl (Nat.le_of_ble_eq_true rfl) dX3_begin_7 (wT b (zu (zu (zu (zu (zu (zu v 0 c) 1 0) 2 0) 4 1) 5 0) 3 w)) (wT_s 3 (by decide)) ?_
    refine z_aload_n mx mb dX3_begin_10 rfl 0 rfl ?_
    refine z_iconst mx mb dX3_begin_11 ?_
    refine z_put (ty := .int) (C := RX3) (T := TX3) (N := 8) mx mb mts (in_X3_begin_X3) tyX3_ok nmX3 mo hK 0 wT_0 rfl 6 (by decide) (mts _ (List.mem_of_getElem? (i := 2) rfl)) (fun _ h9 => h9) rfl (by decide +kernel) rfl rfl (Nat.le_of_ble_eq_true rfl) dX3_begin_12 (wT b (zu (zu (zu (zu (zu (zu (zu v 0 c) 1 0) 2 0) 4 1) 5 0) 3 w) 6 0)) (wT_s 6 (by decide)) ?_
    refine z_aload_n mx mb dX3_begin_15 rfl 0 rfl ?_
    refine z_iconst mx mb dX3_begin_16 ?_
    refine z_put (ty := .int) (C := RX3) (T := TX3) (N := 8) mx mb mts (in_X3_begin_X3) tyX3_ok nmX3 mo hK 0 wT_0 rfl 7 (by decide) (mts _ (List.mem_of_getElem? (i := 3) rfl)) (fun _ h9 => h9) rfl (by decide +kernel) rfl rfl (Nat.le_of_ble_eq_true rfl) dX3_begin_17 (wT b (zu (zu (zu (zu (zu (zu (zu (zu v 0 c) 1 0) 2 0) 4 1) 5 0) 3 w) 6 0) 7 0)) (wT_s 7 (by decide)) ?_
    rw [hQ]
    exact z_retV mx mb mr mlk hK () (by trivial) (by rfl) dX3_begin_20
  subst hQ
  subst hw0
  exact hstart

theorem in_X3_passWarmth_X3 : ∀ w ∈ wsX30, w ∈ wsX3_passWarmth := by decide +kernel
set_option maxRecDepth 100000 in
set_option maxHeartbeats 4000000 in
theorem c_X3_passWarmth (l : Launch) (D : va_G) (sz : Nat) (y : Nat → ClassId) (b : Nat) (v : Int → Int) (w : Int) (h1 : 0 ≤ v 1 ∧ v 1 ≤ 9999) (h3 : 0 ≤ v 3 ∧ v 3 ≤ 100) (h4 : 0 ≤ v 4 ∧ v 4 ≤ 2) (hw : 0 ≤ w ∧ w ≤ 40) : Met l yX3_passWarmth wsX3_passWarmth ({ frames := 1, cells := 0, slots := 0, locals := 23 } : Room) (zPw D vwCl (zT y) (wT b v) sz [.ref b, .int (iZ w)]) (va_Qv (fun _ : Unit => True) (zB D vwCl (zT y) (wT b v) sz (fun _ => wT b (zu v 3 (near (cap100 (v 3 + (if v 4 = 0 then root (v 1) / 10 else 0))) w)))) (va_A (wT b v) sz)) 0 0 (va_A (wT b v) sz) := by
  refine z_headW (cc := cX3_passWarmth) (maxL := 2) (ret := none) [(0, .ref b), (1, .int (iZ w))] rfl (Nat.le_of_ble_eq_true rfl) (by decide +kernel) rfl ?_
  intro pp ee ss mm below meth cd mx mb mr mml mo mts mlk hK hname hsz hA
  generalize ([.ref b, .int (iZ w)] : List Value).toArray = args at mts ⊢
  obtain ⟨wst, hw0⟩ : ∃ wst, wst = wT b v := ⟨_, rfl⟩
  have hA : ∀ q, ss.heap.size ≤ q → va_A wst sz q := by rw [hw0]; exact hA
  obtain ⟨Q, hQ⟩ : ∃ Q, Q = MQ below (va_Qv (fun _ : Unit => True) (zB D vwCl (zT y) wst sz (fun _ => wT b (zu v 3 (near (cap100 (v 3 + (if v 4 = 0 then root (v 1) / 10 else 0))) w)))) (va_A wst sz)) args ss 0 0 (va_A wst sz) := ⟨_, rfl⟩
  have hstart : Gz pp l ee ({ frames := 1, cells := 0, slots := 0, locals := 23 } : Room) ss mm args below meth cd 2 0 0 Q (Zw D vwCl (va_A wst sz) ss (wT b v)) 0 [(0, .ref b), (1, .int (iZ w))] [] := by
    have rs := root_spec h1
    refine z_aload_n mx mb dX3_passWarmth_0 rfl 0 rfl ?_
    refine z_get (C := RX3) (T := TX3) (N := 8) mx mb mts (in_X3_passWarmth_X3) mo hK zgw 0 wT_0 rfl 4 (by decide) (mts _ (List.mem_of_getElem? (i := 1) rfl)) (fun _ h9 => h9) rfl dX3_passWarmth_1 ?_
    have jn28 : ∀ (x : Int), (x = cap100 (v 3 + (if v 4 = 0 then root (v 1) / 10 else 0))) → (0 ≤ x ∧ x ≤ 100) → Gz pp l ee ({ frames := 1, cells := 0, slots := 0, locals := 23 } : Room) ss mm args below meth cd 2 0 0 Q (Zw D vwCl (va_A wst sz) ss (wT b (zu v 3 x))) 28 [(0, .ref b), (1, .int (iZ w))] [] := by
      intro x ex hx
      refine z_aload_n mx mb dX3_passWarmth_28 rfl 0 rfl ?_
      refine z_get (C := RX3) (T := TX3) (N := 8) mx mb mts (in_X3_passWarmth_X3) mo hK zgw 0 wT_0 rfl 3 (by decide) (mts _ (List.mem_of_getElem? (i := 2) rfl)) (fun _ h9 => h9) rfl dX3_passWarmth_29 ?_
      refine z_top (show (zu v 3 x) 3 = x from by exact zu_s _ _ _) ?_
      refine z_iload_n mx mb dX3_passWarmth_32 rfl 1 rfl ?_
      refine z_icmp_ge (tgt := 49) mx mb (by omega) (by omega) dX3_passWarmth_33 (by decide) (fun c33 => ?_) (fun c33 => ?_)
      · skip
        refine z_aload_n mx mb dX3_passWarmth_49 rfl 0 rfl ?_
        refine z_get (C := RX3) (T := TX3) (N := 8) mx mb mts (in_X3_passWarmth_X3) mo hK zgw 0 wT_0 rfl 3 (by decide) (mts _ (List.mem_of_getElem? (i := 2) rfl)) (fun _ h9 => h9) rfl dX3_passWarmth_50 ?_
        refine z_top (show (zu v 3 x) 3 = x from by exact zu_s _ _ _) ?_
        refine z_iload_n mx mb dX3_passWarmth_53 rfl 1 rfl ?_
        refine z_icmp_le (tgt := 67) mx mb (by omega) (by omega) dX3_passWarmth_54 (by decide) (fun c54 => ?_) (fun c54 => ?_)
        · skip
          rw [hQ]
          exact z_retV mx mb mr mlk hK () (by trivial) (by unfold near; rw [← ex, if_neg (by omega), if_neg (by omega)]) dX3_passWarmth_67
        · skip
          refine z_aload_n mx mb dX3_passWarmth_57 rfl 0 rfl ?_
          refine z_dup mx mb dX3_passWarmth_58 rfl ?_
          refine z_get (C := RX3) (T := TX3) (N := 8) mx mb mts (in_X3_passWarmth_X3) mo hK zgw 0 wT_0 rfl 3 (by decide) (mts _ (List.mem_of_getElem? (i := 2) rfl)) (fun _ h9 => h9) rfl dX3_passWarmth_59 ?_
          refine z_top (show (zu v 3 x) 3 = x from by exact zu_s _ _ _) ?_
          refine z_iconst mx mb dX3_passWarmth_62 ?_
          refine z_isub mx mb dX3_passWarmth_63 ?_
          refine z_put (ty := .int) (C := RX3) (T := TX3) (N := 8) mx mb mts (in_X3_passWarmth_X3) tyX3_ok nmX3 mo hK 0 wT_0 rfl 3 (by decide) (mts _ (List.mem_of_getElem? (i := 2) rfl)) (fun _ h9 => h9) rfl (by decide +kernel) rfl rfl (Nat.le_of_ble_eq_true rfl) dX3_passWarmth_64 (wT b (zu (zu v 3 x) 3 (x - 1))) (wT_s 3 (by decide)) ?_
          rw [hQ]
          exact z_retV mx mb mr mlk hK () (by trivial) (by unfold near; rw [← ex, if_neg (by omega), if_pos (by omega), zu_zu]) dX3_passWarmth_67
      · skip
        refine z_aload_n mx mb dX3_passWarmth_36 rfl 0 rfl ?_
        refine z_dup mx mb dX3_passWarmth_37 rfl ?_
        refine z_get (C := RX3) (T := TX3) (N := 8) mx mb mts (in_X3_passWarmth_X3) mo hK zgw 0 wT_0 rfl 3 (by decide) (mts _ (List.mem_of_getElem? (i := 2) rfl)) (fun _ h9 => h9) rfl dX3_passWarmth_38 ?_
        refine z_top (show (zu v 3 x) 3 = x from by exact zu_s _ _ _) ?_
        refine z_iconst mx mb dX3_passWarmth_41 ?_
        refine z_iadd mx mb dX3_passWarmth_42 ?_
        refine z_put (ty := .int) (C := RX3) (T := TX3) (N := 8) mx mb mts (in_X3_passWarmth_X3) tyX3_ok nmX3 mo hK 0 wT_0 rfl 3 (by decide) (mts _ (List.mem_of_getElem? (i := 2) rfl)) (fun _ h9 => h9) rfl (by decide +kernel) rfl rfl (Nat.le_of_ble_eq_true rfl) dX3_passWarmth_43 (wT b (zu (zu v 3 x) 3 (x + 1))) (wT_s 3 (by decide)) ?_
        refine z_goto (tgt := 67) mx mb dX3_passWarmth_46 (by decide) ?_
        rw [hQ]
        exact z_retV mx mb mr mlk hK () (by trivial) (by unfold near; rw [← ex, if_pos (by omega), zu_zu]) dX3_passWarmth_67
    refine z_if_ne (tgt := 28) mx mb (by omega) dX3_passWarmth_4 (by decide) (fun c4 => ?_) (fun c4 => ?_)
    · skip
      rw [show wT b v = wT b (zu v 3 (v 3)) from by rw [zu_id rfl]]
      exact jn28 _ (by unfold cap100; rw [if_neg c4, if_neg (by omega), Int.add_zero]) (by omega)
    · skip
      refine z_aload_n mx mb dX3_passWarmth_7 rfl 0 rfl ?_
      refine z_aload_n mx mb dX3_passWarmth_8 rfl 0 rfl ?_
      refine z_get (C := RX3) (T := TX3) (N := 8) mx mb mts (in_X3_passWarmth_X3) mo hK zgw 0 wT_0 rfl 3 (by decide) (mts _ (List.mem_of_getElem? (i := 2) rfl)) (fun _ h9 => h9) rfl dX3_passWarmth_9 ?_
      refine z_aload_n mx mb dX3_passWarmth_12 rfl 0 rfl ?_
      refine z_callP (As := []) (rest := [.int (iZ (v 3)), .ref b]) ⟨mx, mb, mml, mo, mts⟩ hK zgw (c_X3_speed l D y b v  (by omega)) (cwV 0 mts gX3_passWarmth_X3_speed rfl rfl rfl (by decide +kernel) ⟨Nat.le_of_ble_eq_true rfl, Nat.le_of_ble_eq_true rfl⟩) (fun _ h => h) 0 wT_0 rfl rfl rfl rfl (Nat.le_of_ble_eq_true rfl) ⟨Nat.zero_le _, Nat.zero_le _⟩ dX3_passWarmth_13 ?_
      refine z_bipush mx mb dX3_passWarmth_16 (by decide +kernel) ?_
      refine z_idiv mx mb (by omega) (by omega) dX3_passWarmth_18 ?_
      refine z_iadd mx mb dX3_passWarmth_19 ?_
      refine z_bipush mx mb dX3_passWarmth_20 (by decide +kernel) ?_
      refine z_mmin (rest := [.ref b]) mx mb mml mo (mts _ (List.mem_of_getElem? (i := 3) rfl)) (mts _ (List.mem_of_getElem? (i := 4) rfl)) (mts _ (List.mem_of_getElem? (i := 5) rfl)) (mts _ (List.mem_of_getElem? (i := 6) rfl)) (Nat.le_of_ble_eq_true rfl) (Nat.le_of_ble_eq_true rfl) ⟨Nat.zero_le _, Nat.zero_le _⟩ (by omega) (by omega) dX3_passWarmth_22 ?_
      refine z_put (ty := .int) (C := RX3) (T := TX3) (N := 8) mx mb mts (in_X3_passWarmth_X3) tyX3_ok nmX3 mo hK 0 wT_0 rfl 3 (by decide) (mts _ (List.mem_of_getElem? (i := 2) rfl)) (fun _ h9 => h9) rfl (by decide +kernel) rfl rfl (Nat.le_of_ble_eq_true rfl) dX3_passWarmth_25 (wT b (zu v 3 (if 100 < ((v 3) + ((root (v 1)) / 10)) then 100 else ((v 3) + ((root (v 1)) / 10))))) (wT_s 3 (by decide)) ?_
      exact jn28 _ (by unfold cap100; rw [if_pos c4]) (by split <;> omega)
  subst hQ
  subst hw0
  exact hstart
