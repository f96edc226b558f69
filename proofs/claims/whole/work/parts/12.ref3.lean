theorem in_X5_put_X5 : ∀ w ∈ wsX50, w ∈ wsX5_put := by decide +kernel
set_option maxRecDepth 100000 in
set_option maxHeartbeats 4000000 in
theorem c_X5_put (l : Launch) (D : va_G) (sz : Nat) (y : Nat → ClassId) (a : Nat → Nat) (f sv ai tx : Int → Int) (sm ln th hh : Int) (t w v : Int) (hi : 0 ≤ 79 + 8 * t + w ∧ 79 + 8 * t + w < 171) : Met l yX5_put wsX5_put ({ frames := 0, cells := 0, slots := 0, locals := 0 } : Room) (zPw D vwCl (zT y) (wM y a f sv ai tx sm ln th hh) sz [.ref (a 0), .int (iZ t), .int (iZ w), .int (iZ v)]) (va_Qv (fun _ : Unit => True) (zB D vwCl (zT y) (wM y a f sv ai tx sm ln th hh) sz (fun _ : Unit => wM y a (put f t w v) sv ai tx sm ln th hh)) (va_A (wM y a f sv ai tx sm ln th hh) sz)) 0 0 (va_A (wM y a f sv ai tx sm ln th hh) sz) := by
  refine z_headW (cc := cX5_put) (maxL := 4) (ret := none) [(0, .ref (a 0)), (1, .int (iZ t)), (2, .int (iZ w)), (3, .int (iZ v))] rfl (Nat.le_of_ble_eq_true rfl) (by decide +kernel) rfl ?_
  intro pp ee ss mm below meth cd mx mb mr mml mo mts mlk hK hname hsz hA
  generalize ([.ref (a 0), .int (iZ t), .int (iZ w), .int (iZ v)] : List Value).toArray = args at mts ⊢
  obtain ⟨wst, hw0⟩ : ∃ wst, wst = wM y a f sv ai tx sm ln th hh := ⟨_, rfl⟩
  have hA : ∀ q, ss.heap.size ≤ q → va_A wst sz q := by rw [hw0]; exact hA
  obtain ⟨Q, hQ⟩ : ∃ Q, Q = MQ below (va_Qv (fun _ : Unit => True) (zB D vwCl (zT y) wst sz (fun _ : Unit => wM y a (put f t w v) sv ai tx sm ln th hh)) (va_A wst sz)) args ss 0 0 (va_A wst sz) := ⟨_, rfl⟩
  have hstart : Gz pp l ee ({ frames := 0, cells := 0, slots := 0, locals := 0 } : Room) ss mm args below meth cd 4 0 0 Q (Zw D vwCl (va_A wst sz) ss (wM y a f sv ai tx sm ln th hh)) 0 [(0, .ref (a 0)), (1, .int (iZ t)), (2, .int (iZ w)), (3, .int (iZ v))] [] := by
    refine z_aload_n mx mb dX5_put_0 rfl 0 rfl ?_
    refine z_get (C := RX5) (T := TX5) (N := 8) mx mb mts (in_X5_put_X5) mo hK zgw 0 wM_0 rfl 0 (by decide) (mts _ (List.mem_of_getElem? (i := 1) rfl)) (fun _ h9 => h9) rfl dX5_put_1 ?_
    refine z_bipush mx mb dX5_put_4 (by decide +kernel) ?_
    refine z_bipush mx mb dX5_put_6 (by decide +kernel) ?_
    refine z_iload_n mx mb dX5_put_8 rfl 1 rfl ?_
    refine z_imul mx mb dX5_put_9 ?_
    refine z_iadd mx mb dX5_put_10 ?_
    refine z_iload_n mx mb dX5_put_11 rfl 2 rfl ?_
    refine z_iadd mx mb dX5_put_12 ?_
    refine z_iload_n mx mb dX5_put_13 rfl 3 rfl ?_
    refine z_iast mx mb hK 1 0 wM_1 rfl (by decide) (by omega) dX5_put_14 (wM y a (zu f ((79 + (8 * t)) + w) v) sv ai tx sm ln th hh) wM_s1 ?_
    rw [hQ]
    exact z_retV mx mb mr mlk hK () (by trivial) rfl dX5_put_15
  subst hQ
  subst hw0
  exact hstart

set_option maxRecDepth 100000 in
set_option maxHeartbeats 4000000 in
theorem c_X5_stands (l : Launch) (D : va_G) (sz : Nat) (y : Nat → ClassId) (a : Nat → Nat) (f sv ai tx : Int → Int) (sm ln th hh : Int) (t : Int) (ht : 0 ≤ t ∧ t < 4) : Met l yX5_stands wsX5_stands ({ frames := 1, cells := 0, slots := 0, locals := 23 } : Room) (zPw D vwCl (zT y) (wM y a f sv ai tx sm ln th hh) sz [.ref (a 0), .int (iZ t)]) (va_Qv (fun _ : Unit => True) (zB D vwCl (zT y) (wM y a f sv ai tx sm ln th hh) sz (fun _ : Unit => wM y a (stands f t) sv ai tx sm ln th hh)) (va_A (wM y a f sv ai tx sm ln th hh) sz)) 0 0 (va_A (wM y a f sv ai tx sm ln th hh) sz) := by
  refine z_headW (cc := cX5_stands) (maxL := 2) (ret := none) [(0, .ref (a 0)), (1, .int (iZ t))] rfl (Nat.le_of_ble_eq_true rfl) (by decide +kernel) rfl ?_
  intro pp ee ss mm below meth cd mx mb mr mml mo mts mlk hK hname hsz hA
  generalize ([.ref (a 0), .int (iZ t)] : List Value).toArray = args at mts ⊢
  obtain ⟨wst, hw0⟩ : ∃ wst, wst = wM y a f sv ai tx sm ln th hh := ⟨_, rfl⟩
  have hA : ∀ q, ss.heap.size ≤ q → va_A wst sz q := by rw [hw0]; exact hA
  obtain ⟨Q, hQ⟩ : ∃ Q, Q = MQ below (va_Qv (fun _ : Unit => True) (zB D vwCl (zT y) wst sz (fun _ : Unit => wM y a (stands f t) sv ai tx sm ln th hh)) (va_A wst sz)) args ss 0 0 (va_A wst sz) := ⟨_, rfl⟩
  have hstart : Gz pp l ee ({ frames := 1, cells := 0, slots := 0, locals := 23 } : Room) ss mm args below meth cd 2 0 0 Q (Zw D vwCl (va_A wst sz) ss (wM y a f sv ai tx sm ln th hh)) 0 [(0, .ref (a 0)), (1, .int (iZ t))] [] := by
    refine z_aload_n mx mb dX5_stands_0 rfl 0 rfl ?_
    refine z_iload_n mx mb dX5_stands_1 rfl 1 rfl ?_
    refine z_iconst mx mb dX5_stands_2 ?_
    refine z_iconst mx mb dX5_stands_3 ?_
    refine z_callV0 (As := [.int (iZ t), .int (iZ 4), .int (iZ 1)]) (rest := []) ⟨mx, mb, mml, mo, mts⟩ hK hA (fun sz => c_X5_put l D sz y a f sv ai tx sm ln th hh t 4 1 (by omega)) (cwV 3 mts gX5_stands_X5_put rfl rfl rfl (by decide +kernel) ⟨Nat.le_of_ble_eq_true rfl, Nat.le_of_ble_eq_true rfl⟩) 0 wM_0 rfl rfl rfl rfl (Nat.le_of_ble_eq_true rfl) ⟨Nat.zero_le _, Nat.zero_le _⟩ dX5_stands_4 (fun u4 hu4 => ?_)
    show Gz pp l ee ({ frames := 1, cells := 0, slots := 0, locals := 23 } : Room) ss mm args below meth cd 2 0 0 Q (Zw D vwCl (va_A wst sz) ss (wM y a (put f t 4 1) sv ai tx sm ln th hh)) 7 [(0, .ref (a 0)), (1, .int (iZ t))] []
    refine z_aload_n mx mb dX5_stands_7 rfl 0 rfl ?_
    refine z_iload_n mx mb dX5_stands_8 rfl 1 rfl ?_
    refine z_iconst mx mb dX5_stands_9 ?_
    refine z_iconst mx mb dX5_stands_10 ?_
    refine z_callV0 (As := [.int (iZ t), .int (iZ 1), .int (iZ 0)]) (rest := []) ⟨mx, mb, mml, mo, mts⟩ hK hA (fun sz => c_X5_put l D sz y a (put f t 4 1) sv ai tx sm ln th hh t 1 0 (by omega)) (cwV 3 mts gX5_stands_X5_put rfl rfl rfl (by decide +kernel) ⟨Nat.le_of_ble_eq_true rfl, Nat.le_of_ble_eq_true rfl⟩) 0 wM_0 rfl rfl rfl rfl (Nat.le_of_ble_eq_true rfl) ⟨Nat.zero_le _, Nat.zero_le _⟩ dX5_stands_11 (fun u11 hu11 => ?_)
    show Gz pp l ee ({ frames := 1, cells := 0, slots := 0, locals := 23 } : Room) ss mm args below meth cd 2 0 0 Q (Zw D vwCl (va_A wst sz) ss (wM y a (put (put f t 4 1) t 1 0) sv ai tx sm ln th hh)) 14 [(0, .ref (a 0)), (1, .int (iZ t))] []
    refine z_aload_n mx mb dX5_stands_14 rfl 0 rfl ?_
    refine z_iload_n mx mb dX5_stands_15 rfl 1 rfl ?_
    refine z_iconst mx mb dX5_stands_16 ?_
    refine z_iconst mx mb dX5_stands_17 ?_
    refine z_callV0 (As := [.int (iZ t), .int (iZ 2), .int (iZ 0)]) (rest := []) ⟨mx, mb, mml, mo, mts⟩ hK hA (fun sz => c_X5_put l D sz y a (put (put f t 4 1) t 1 0) sv ai tx sm ln th hh t 2 0 (by omega)) (cwV 3 mts gX5_stands_X5_put rfl rfl rfl (by decide +kernel) ⟨Nat.le_of_ble_eq_true rfl, Nat.le_of_ble_eq_true rfl⟩) 0 wM_0 rfl rfl rfl rfl (Nat.le_of_ble_eq_true rfl) ⟨Nat.zero_le _, Nat.zero_le _⟩ dX5_stands_18 (fun u18 hu18 => ?_)
    show Gz pp l ee ({ frames := 1, cells := 0, slots := 0, locals := 23 } : Room) ss mm args below meth cd 2 0 0 Q (Zw D vwCl (va_A wst sz) ss (wM y a (put (put (put f t 4 1) t 1 0) t 2 0) sv ai tx sm ln th hh)) 21 [(0, .ref (a 0)), (1, .int (iZ t))] []
    refine z_aload_n mx mb dX5_stands_21 rfl 0 rfl ?_
    refine z_iload_n mx mb dX5_stands_22 rfl 1 rfl ?_
    refine z_iconst mx mb dX5_stands_23 ?_
    refine z_iconst mx mb dX5_stands_24 ?_
    refine z_callV0 (As := [.int (iZ t), .int (iZ 5), .int (iZ 0)]) (rest := []) ⟨mx, mb, mml, mo, mts⟩ hK hA (fun sz => c_X5_put l D sz y a (put (put (put f t 4 1) t 1 0) t 2 0) sv ai tx sm ln th hh t 5 0 (by omega)) (cwV 3 mts gX5_stands_X5_put rfl rfl rfl (by decide +kernel) ⟨Nat.le_of_ble_eq_true rfl, Nat.le_of_ble_eq_true rfl⟩) 0 wM_0 rfl rfl rfl rfl (Nat.le_of_ble_eq_true rfl) ⟨Nat.zero_le _, Nat.zero_le _⟩ dX5_stands_25 (fun u25 hu25 => ?_)
    show Gz pp l ee ({ frames := 1, cells := 0, slots := 0, locals := 23 } : Room) ss mm args below meth cd 2 0 0 Q (Zw D vwCl (va_A wst sz) ss (wM y a (put (put (put (put f t 4 1) t 1 0) t 2 0) t 5 0) sv ai tx sm ln th hh)) 28 [(0, .ref (a 0)), (1, .int (iZ t))] []
    rw [hQ]
    exact z_retV mx mb mr mlk hK () (by trivial) rfl dX5_stands_28
  subst hQ
  subst hw0
  exact hstart

set_option maxRecDepth 100000 in
set_option maxHeartbeats 4000000 in
theorem c_X5_lies (l : Launch) (D : va_G) (sz : Nat) (y : Nat → ClassId) (a : Nat → Nat) (f sv ai tx : Int → Int) (sm ln th hh : Int) (t : Int) (ht : 0 ≤ t ∧ t < 4) : Met l yX5_lies wsX5_lies ({ frames := 1, cells := 0, slots := 0, locals := 23 } : Room) (zPw D vwCl (zT y) (wM y a f sv ai tx sm ln th hh) sz [.ref (a 0), .int (iZ t)]) (va_Qv (fun _ : Unit => True) (zB D vwCl (zT y) (wM y a f sv ai tx sm ln th hh) sz (fun _ : Unit => wM y a (lies f t) sv ai tx sm ln th hh)) (va_A (wM y a f sv ai tx sm ln th hh) sz)) 0 0 (va_A (wM y a f sv ai tx sm ln th hh) sz) := by
  refine z_headW (cc := cX5_lies) (maxL := 2) (ret := none) [(0, .ref (a 0)), (1, .int (iZ t))] rfl (Nat.le_of_ble_eq_true rfl) (by decide +kernel) rfl ?_
  intro pp ee ss mm below meth cd mx mb mr mml mo mts mlk hK hname hsz hA
  generalize ([.ref (a 0), .int (iZ t)] : List Value).toArray = args at mts ⊢
  obtain ⟨wst, hw0⟩ : ∃ wst, wst = wM y a f sv ai tx sm ln th hh := ⟨_, rfl⟩
  have hA : ∀ q, ss.heap.size ≤ q → va_A wst sz q := by rw [hw0]; exact hA
  obtain ⟨Q, hQ⟩ : ∃ Q, Q = MQ below (va_Qv (fun _ : Unit => True) (zB D vwCl (zT y) wst sz (fun _ : Unit => wM y a (lies f t) sv ai tx sm ln th hh)) (va_A wst sz)) args ss 0 0 (va_A wst sz) := ⟨_, rfl⟩
  have hstart : Gz pp l ee ({ frames := 1, cells := 0, slots := 0, locals := 23 } : Room) ss mm args below meth cd 2 0 0 Q (Zw D vwCl (va_A wst sz) ss (wM y a f sv ai tx sm ln th hh)) 0 [(0, .ref (a 0)), (1, .int (iZ t))] [] := by
    refine z_aload_n mx mb dX5_lies_0 rfl 0 rfl ?_
    refine z_iload_n mx mb dX5_lies_1 rfl 1 rfl ?_
    refine z_iconst mx mb dX5_lies_2 ?_
    refine z_iconst mx mb dX5_lies_3 ?_
    refine z_callV0 (As := [.int (iZ t), .int (iZ 4), .int (iZ 2)]) (rest := []) ⟨mx, mb, mml, mo, mts⟩ hK hA (fun sz => c_X5_put l D sz y a f sv ai tx sm ln th hh t 4 2 (by omega)) (cwV 3 mts gX5_lies_X5_put rfl rfl rfl (by decide +kernel) ⟨Nat.le_of_ble_eq_true rfl, Nat.le_of_ble_eq_true rfl⟩) 0 wM_0 rfl rfl rfl rfl (Nat.le_of_ble_eq_true rfl) ⟨Nat.zero_le _, Nat.zero_le _⟩ dX5_lies_4 (fun u4 hu4 => ?_)
    show Gz pp l ee ({ frames := 1, cells := 0, slots := 0, locals := 23 } : Room) ss mm args below meth cd 2 0 0 Q (Zw D vwCl (va_A wst sz) ss (wM y a (put f t 4 2) sv ai tx sm ln th hh)) 7 [(0, .ref (a 0)), (1, .int (iZ t))] []
    refine z_aload_n mx mb dX5_lies_7 rfl 0 rfl ?_
    refine z_iload_n mx mb dX5_lies_8 rfl 1 rfl ?_
    refine z_iconst mx mb dX5_lies_9 ?_
    refine z_iconst mx mb dX5_lies_10 ?_
    refine z_callV0 (As := [.int (iZ t), .int (iZ 1), .int (iZ 0)]) (rest := []) ⟨mx, mb, mml, mo, mts⟩ hK hA (fun sz => c_X5_put l D sz y a (put f t 4 2) sv ai tx sm ln th hh t 1 0 (by omega)) (cwV 3 mts gX5_lies_X5_put rfl rfl rfl (by decide +kernel) ⟨Nat.le_of_ble_eq_true rfl, Nat.le_of_ble_eq_true rfl⟩) 0 wM_0 rfl rfl rfl rfl (Nat.le_of_ble_eq_true rfl) ⟨Nat.zero_le _, Nat.zero_le _⟩ dX5_lies_11 (fun u11 hu11 => ?_)
    show Gz pp l ee ({ frames := 1, cells := 0, slots := 0, locals := 23 } : Room) ss mm args below meth cd 2 0 0 Q (Zw D vwCl (va_A wst sz) ss (wM y a (put (put f t 4 2) t 1 0) sv ai tx sm ln th hh)) 14 [(0, .ref (a 0)), (1, .int (iZ t))] []
    refine z_aload_n mx mb dX5_lies_14 rfl 0 rfl ?_
    refine z_iload_n mx mb dX5_lies_15 rfl 1 rfl ?_
    refine z_iconst mx mb dX5_lies_16 ?_
    refine z_iconst mx mb dX5_lies_17 ?_
    refine z_callV0 (As := [.int (iZ t), .int (iZ 2), .int (iZ 0)]) (rest := []) ⟨mx, mb, mml, mo, mts⟩ hK hA (fun sz => c_X5_put l D sz y a (put (put f t 4 2) t 1 0) sv ai tx sm ln th hh t 2 0 (by omega)) (cwV 3 mts gX5_lies_X5_put rfl rfl rfl (by decide +kernel) ⟨Nat.le_of_ble_eq_true rfl, Nat.le_of_ble_eq_true rfl⟩) 0 wM_0 rfl rfl rfl rfl (Nat.le_of_ble_eq_true rfl) ⟨Nat.zero_le _, Nat.zero_le _⟩ dX5_lies_18 (fun u18 hu18 => ?_)
    show Gz pp l ee ({ frames := 1, cells := 0, slots := 0, locals := 23 } : Room) ss mm args below meth cd 2 0 0 Q (Zw D vwCl (va_A wst sz) ss (wM y a (put (put (put f t 4 2) t 1 0) t 2 0) sv ai tx sm ln th hh)) 21 [(0, .ref (a 0)), (1, .int (iZ t))] []
    rw [hQ]
    exact z_retV mx mb mr mlk hK () (by trivial) rfl dX5_lies_21
  subst hQ
  subst hw0
  exact hstart

theorem in_X5_tells_X5 : ∀ w ∈ wsX50, w ∈ wsX5_tells := by decide +kernel
set_option maxRecDepth 100000 in
set_option maxHeartbeats 4000000 in
theorem c_X5_tells (l : Launch) (D : va_G) (sz : Nat) (y : Nat → ClassId) (a : Nat → Nat) (f sv ai tx : Int → Int) (sm ln th hh : Int) (v : Int)  : Met l yX5_tells wsX5_tells ({ frames := 0, cells := 0, slots := 0, locals := 0 } : Room) (zPw D vwCl (zT y) (wM y a f sv ai tx sm ln th hh) sz [.ref (a 0), .int (iZ v)]) (va_Qi (fun (r : Int32) (_ : Unit) => r = iZ v) (zB D vwCl (zT y) (wM y a f sv ai tx sm ln th hh) sz (fun _ : Unit => wM y a f sv ai tx sm ln 0 hh)) (va_A (wM y a f sv ai tx sm ln th hh) sz)) 0 0 (va_A (wM y a f sv ai tx sm ln th hh) sz) := by
  refine z_headW (cc := cX5_tells) (maxL := 2) (ret := (some .int)) [(0, .ref (a 0)), (1, .int (iZ v))] rfl (Nat.le_of_ble_eq_true rfl) (by decide +kernel) rfl ?_
  intro pp ee ss mm below meth cd mx mb mr mml mo mts mlk hK hname hsz hA
  generalize ([.ref (a 0), .int (iZ v)] : List Value).toArray = args at mts ⊢
  obtain ⟨wst, hw0⟩ : ∃ wst, wst = wM y a f sv ai tx sm ln th hh := ⟨_, rfl⟩
  have hA : ∀ q, ss.heap.size ≤ q → va_A wst sz q := by rw [hw0]; exact hA
  obtain ⟨Q, hQ⟩ : ∃ Q, Q = MQ below (va_Qi (fun (r : Int32) (_ : Unit) => r = iZ v) (zB D vwCl (zT y) wst sz (fun _ : Unit => wM y a f sv ai tx sm ln 0 hh)) (va_A wst sz)) args ss 0 0 (va_A wst sz) := ⟨_, rfl⟩
  have hstart : Gz pp l ee ({ frames := 0, cells := 0, slots := 0, locals := 0 } : Room) ss mm args below meth cd 2 0 0 Q (Zw D vwCl (va_A wst sz) ss (wM y a f sv ai tx sm ln th hh)) 0 [(0, .ref (a 0)), (1, .int (iZ v))] [] := by
    refine z_aload_n mx mb dX5_tells_0 rfl 0 rfl ?_
    refine z_iconst mx mb dX5_tells_1 ?_
    refine z_put (ty := .int) (C := RX5) (T := TX5) (N := 8) mx mb mts (in_X5_tells_X5) tyX5_ok nmX5 mo hK 0 wM_0 rfl 6 (by decide) (mts _ (List.mem_of_getElem? (i := 1) rfl)) (fun _ h9 => h9) rfl (by decide +kernel) rfl rfl (Nat.le_of_ble_eq_true rfl) dX5_tells_2 (wM y a f sv ai tx sm ln 0 hh) rfl ?_
    refine z_iload_n mx mb dX5_tells_5 rfl 1 rfl ?_
    rw [hQ]
    exact z_retI mx mb mr mlk hK () (by rfl) rfl dX5_tells_6
  subst hQ
  subst hw0
  exact hstart

theorem in_X5_fails_X5 : ∀ w ∈ wsX50, w ∈ wsX5_fails := by decide +kernel
set_option maxRecDepth 100000 in
set_option maxHeartbeats 4000000 in
theorem c_X5_fails (l : Launch) (D : va_G) (sz : Nat) (y : Nat → ClassId) (a : Nat → Nat) (f sv ai tx : Int → Int) (sm ln th hh : Int) (v : Int)  : Met l yX5_fails wsX5_fails ({ frames := 0, cells := 0, slots := 0, locals := 0 } : Room) (zPw D vwCl (zT y) (wM y a f sv ai tx sm ln th hh) sz [.ref (a 0), .int (iZ v)]) (va_Qi (fun (r : Int32) (_ : Unit) => r = iZ 0) (zB D vwCl (zT y) (wM y a f sv ai tx sm ln th hh) sz (fun _ : Unit => wM y a f sv ai tx sm ln v hh)) (va_A (wM y a f sv ai tx sm ln th hh) sz)) 0 0 (va_A (wM y a f sv ai tx sm ln th hh) sz) := by
  refine z_headW (cc := cX5_fails) (maxL := 2) (ret := (some .int)) [(0, .ref (a 0)), (1, .int (iZ v))] rfl (Nat.le_of_ble_eq_true rfl) (by decide +kernel) rfl ?_
  intro pp ee ss mm below meth cd mx mb mr mml mo mts mlk hK hname hsz hA
  generalize ([.ref (a 0), .int (iZ v)] : List Value).toArray = args at mts ⊢
  obtain ⟨wst, hw0⟩ : ∃ wst, wst = wM y a f sv ai tx sm ln th hh := ⟨_, rfl⟩
  have hA : ∀ q, ss.heap.size ≤ q → va_A wst sz q := by rw [hw0]; exact hA
  obtain ⟨Q, hQ⟩ : ∃ Q, Q = MQ below (va_Qi (fun (r : Int32) (_ : Unit) => r = iZ 0) (zB D vwCl (zT y) wst sz (fun _ : Unit => wM y a f sv ai tx sm ln v hh)) (va_A wst sz)) args ss 0 0 (va_A wst sz) := ⟨_, rfl⟩
  have hstart : Gz pp l ee ({ frames := 0, cells := 0, slots := 0, locals := 0 } : Room) ss mm args below meth cd 2 0 0 Q (Zw D vwCl (va_A wst sz) ss (wM y a f sv ai tx sm ln th hh)) 0 [(0, .ref (a 0)), (1, .int (iZ v))] [] := by
    refine z_aload_n mx mb dX5_fails_0 rfl 0 rfl ?_
    refine z_iload_n mx mb dX5_fails_1 rfl 1 rfl ?_
    refine z_put (ty := .int) (C := RX5) (T := TX5) (N := 8) mx mb mts (in_X5_fails_X5) tyX5_ok nmX5 mo hK 0 wM_0 rfl 6 (by decide) (mts _ (List.mem_of_getElem? (i := 1) rfl)) (fun _ h9 => h9) rfl (by decide +kernel) rfl rfl (Nat.le_of_ble_eq_true rfl) dX5_fails_2 (wM y a f sv ai tx sm ln v hh) rfl ?_
    refine z_iconst mx mb dX5_fails_5 ?_
    rw [hQ]
    exact z_retI mx mb mr mlk hK () (by rfl) rfl dX5_fails_6
  subst hQ
  subst hw0
  exact hstart

theorem in_X5_cell0_X5 : ∀ w ∈ wsX50, w ∈ wsX5_cell0 := by decide +kernel
set_option maxRecDepth 100000 in
set_option maxHeartbeats 4000000 in
theorem c_X5_cell0 (l : Launch) (D : va_G) (sz : Nat) (y : Nat → ClassId) (a : Nat → Nat) (f sv ai tx : Int → Int) (sm ln th hh : Int) (h k : Int) (h0 : 0 ≤ f 0 ∧ f 0 < 30) (hk : -2147483648 ≤ k ∧ k ≤ 2147483647) : Met l yX5_cell0 wsX5_cell0 ({ frames := 0, cells := 0, slots := 0, locals := 0 } : Room) (zPw D vwCl (zT y) (wM y a f sv ai tx sm ln th hh) sz [.ref (a 0), .int (iZ h), .int (iZ k)]) (va_Qv (fun _ : Unit => True) (zB D vwCl (zT y) (wM y a f sv ai tx sm ln th hh) sz (fun _ : Unit => wM y a (addCell f h k) sv ai tx sm ln th hh)) (va_A (wM y a f sv ai tx sm ln th hh) sz)) 0 0 (va_A (wM y a f sv ai tx sm ln th hh) sz) := by
  refine z_headW (cc := cX5_cell0) (maxL := 3) (ret := none) [(0, .ref (a 0)), (1, .int (iZ h)), (2, .int (iZ k))] rfl (Nat.le_of_ble_eq_true rfl) (by decide +kernel) rfl ?_
  intro pp ee ss mm below meth cd mx mb mr mml mo mts mlk hK hname hsz hA
  generalize ([.ref (a 0), .int (iZ h), .int (iZ k)] : List Value).toArray = args at mts ⊢
  obtain ⟨wst, hw0⟩ : ∃ wst, wst = wM y a f sv ai tx sm ln th hh := ⟨_, rfl⟩
  have hA : ∀ q, ss.heap.size ≤ q → va_A wst sz q := by rw [hw0]; exact hA
  obtain ⟨Q, hQ⟩ : ∃ Q, Q = MQ below (va_Qv (fun _ : Unit => True) (zB D vwCl (zT y) wst sz (fun _ : Unit => wM y a (addCell f h k) sv ai tx sm ln th hh)) (va_A wst sz)) args ss 0 0 (va_A wst sz) := ⟨_, rfl⟩
  have hstart : Gz pp l ee ({ frames := 0, cells := 0, slots := 0, locals := 0 } : Room) ss mm args below meth cd 3 0 0 Q (Zw D vwCl (va_A wst sz) ss (wM y a f sv ai tx sm ln th hh)) 0 [(0, .ref (a 0)), (1, .int (iZ h)), (2, .int (iZ k))] [] := by
    refine z_aload_n mx mb dX5_cell0_0 rfl 0 rfl ?_
    refine z_get (C := RX5) (T := TX5) (N := 8) mx mb mts (in_X5_cell0_X5) mo hK zgw 0 wM_0 rfl 0 (by decide) (mts _ (List.mem_of_getElem? (i := 1) rfl)) (fun _ h9 => h9) rfl dX5_cell0_1 ?_
    refine z_bipush mx mb dX5_cell0_4 (by decide +kernel) ?_
    refine z_aload_n mx mb dX5_cell0_6 rfl 0 rfl ?_
    refine z_get (C := RX5) (T := TX5) (N := 8) mx mb mts (in_X5_cell0_X5) mo hK zgw 0 wM_0 rfl 0 (by decide) (mts _ (List.mem_of_getElem? (i := 1) rfl)) (fun _ h9 => h9) rfl dX5_cell0_7 ?_
    refine z_iconst mx mb dX5_cell0_10 ?_
    refine z_iald mx mb hK zgw 1 0 wM_1 rfl (by decide) (by omega) dX5_cell0_11 ?_
    refine z_iadd mx mb dX5_cell0_12 ?_
    refine z_iload_n mx mb dX5_cell0_13 rfl 1 rfl ?_
    refine z_iast mx mb hK 1 0 wM_1 rfl (by decide) (by omega) dX5_cell0_14 (wM y a (zu f (11 + (f 0)) h) sv ai tx sm ln th hh) wM_s1 ?_
    refine z_aload_n mx mb dX5_cell0_15 rfl 0 rfl ?_
    refine z_get (C := RX5) (T := TX5) (N := 8) mx mb mts (in_X5_cell0_X5) mo hK zgw 0 wM_0 rfl 0 (by decide) (mts _ (List.mem_of_getElem? (i := 1) rfl)) (fun _ h9 => h9) rfl dX5_cell0_16 ?_
    refine z_bipush mx mb dX5_cell0_19 (by decide +kernel) ?_
    refine z_aload_n mx mb dX5_cell0_21 rfl 0 rfl ?_
    refine z_get (C := RX5) (T := TX5) (N := 8) mx mb mts (in_X5_cell0_X5) mo hK zgw 0 wM_0 rfl 0 (by decide) (mts _ (List.mem_of_getElem? (i := 1) rfl)) (fun _ h9 => h9) rfl dX5_cell0_22 ?_
    refine z_iconst mx mb dX5_cell0_25 ?_
    refine z_iald mx mb hK zgw 1 0 wM_1 rfl (by decide) (by omega) dX5_cell0_26 ?_
    rw [show (zu f (11 + (f 0)) h) 0 = f 0 from by exact zu_n (by omega)]
    refine z_iadd mx mb dX5_cell0_27 ?_
    refine z_iload_n mx mb dX5_cell0_28 rfl 2 rfl ?_
    refine z_iast mx mb hK 1 0 wM_1 rfl (by decide) (by omega) dX5_cell0_29 (wM y a (zu (zu f (11 + (f 0)) h) (41 + (f 0)) k) sv ai tx sm ln th hh) wM_s1 ?_
    refine z_aload_n mx mb dX5_cell0_30 rfl 0 rfl ?_
    refine z_get (C := RX5) (T := TX5) (N := 8) mx mb mts (in_X5_cell0_X5) mo hK zgw 0 wM_0 rfl 0 (by decide) (mts _ (List.mem_of_getElem? (i := 1) rfl)) (fun _ h9 => h9) rfl dX5_cell0_31 ?_
    refine z_iconst mx mb dX5_cell0_34 ?_
    refine z_dup2 mx mb dX5_cell0_35 rfl rfl ?_
    refine z_iald mx mb hK zgw 1 0 wM_1 rfl (by decide) (by omega) dX5_cell0_36 ?_
    rw [show (zu (zu f (11 + (f 0)) h) (41 + (f 0)) k) 0 = f 0 from by rw [zu_n (by omega), zu_n (by omega)]]
    refine z_iconst mx mb dX5_cell0_37 ?_
    refine z_iadd mx mb dX5_cell0_38 ?_
    refine z_iast mx mb hK 1 0 wM_1 rfl (by decide) (by omega) dX5_cell0_39 (wM y a (zu (zu (zu f (11 + (f 0)) h) (41 + (f 0)) k) 0 ((f 0) + 1)) sv ai tx sm ln th hh) wM_s1 ?_
    refine z_aload_n mx mb dX5_cell0_40 rfl 0 rfl ?_
    refine z_get (C := RX5) (T := TX5) (N := 8) mx mb mts (in_X5_cell0_X5) mo hK zgw 0 wM_0 rfl 0 (by decide) (mts _ (List.mem_of_getElem? (i := 1) rfl)) (fun _ h9 => h9) rfl dX5_cell0_41 ?_
    refine z_iconst mx mb dX5_cell0_44 ?_
    refine z_dup2 mx mb dX5_cell0_45 rfl rfl ?_
    refine z_iald mx mb hK zgw 1 0 wM_1 rfl (by decide) (by omega) dX5_cell0_46 ?_
    rw [show (zu (zu (zu f (11 + (f 0)) h) (41 + (f 0)) k) 0 ((f 0) + 1)) 1 = f 1 from by rw [zu_n (by omega), zu_n (by omega), zu_n (by omega)]]
    refine z_iload_n mx mb dX5_cell0_47 rfl 2 rfl ?_
    refine z_iconst mx mb dX5_cell0_48 ?_
    refine z_icmp_ne (tgt := 56) mx mb (by omega) (by omega) dX5_cell0_49 (by decide) (fun c49 => ?_) (fun c49 => ?_)
    · skip
      refine z_iconst mx mb dX5_cell0_56 ?_
      refine z_iadd mx mb dX5_cell0_57 ?_
      refine z_iast mx mb hK 1 0 wM_1 rfl (by decide) (by omega) dX5_cell0_58 (wM y a (zu (zu (zu (zu f (11 + (f 0)) h) (41 + (f 0)) k) 0 ((f 0) + 1)) 1 ((f 1) + 0)) sv ai tx sm ln th hh) wM_s1 ?_
      rw [hQ]
      exact z_retV mx mb mr mlk hK () (by trivial) (by unfold addCell; rw [if_neg c49]) dX5_cell0_59
    · skip
      refine z_iconst mx mb dX5_cell0_52 ?_
      refine z_goto (tgt := 57) mx mb dX5_cell0_53 (by decide) ?_
      refine z_iadd mx mb dX5_cell0_57 ?_
      refine z_iast mx mb hK 1 0 wM_1 rfl (by decide) (by omega) dX5_cell0_58 (wM y a (zu (zu (zu (zu f (11 + (f 0)) h) (41 + (f 0)) k) 0 ((f 0) + 1)) 1 ((f 1) + 1)) sv ai tx sm ln th hh) wM_s1 ?_
      rw [hQ]
      exact z_retV mx mb mr mlk hK () (by trivial) (by unfold addCell; rw [if_pos c49]) dX5_cell0_59
  subst hQ
  subst hw0
  exact hstart

theorem in_X5_saves_X5 : ∀ w ∈ wsX50, w ∈ wsX5_saves := by decide +kernel
set_option maxRecDepth 100000 in
set_option maxHeartbeats 4000000 in
theorem c_X5_saves (l : Launch) (D : va_G) (sz : Nat) (y : Nat → ClassId) (a : Nat → Nat) (f sv ai tx : Int → Int) (sm ln th hh : Int) (hs : 0 ≤ sm ∧ sm ≤ 4) : Met l yX5_saves wsX5_saves ({ frames := 0, cells := 0, slots := 0, locals := 0 } : Room) (zPw D vwCl (zT y) (wM y a f sv ai tx sm ln th hh) sz [.ref (a 0)]) (va_Qv (fun _ : Unit => True) (zB D vwCl (zT y) (wM y a f sv ai tx sm ln th hh) sz (fun _ : Unit => wM y a f (svS sv f sm) ai tx (smS sm) ln th hh)) (va_A (wM y a f sv ai tx sm ln th hh) sz)) 0 0 (va_A (wM y a f sv ai tx sm ln th hh) sz) := by
  refine z_headW (cc := cX5_saves) (maxL := 2) (ret := none) [(0, .ref (a 0))] rfl (Nat.le_of_ble_eq_true rfl) (by decide +kernel) rfl ?_
  intro pp ee ss mm below meth cd mx mb mr mml mo mts mlk hK hname hsz hA
  generalize ([.ref (a 0)] : List Value).toArray = args at mts ⊢
  obtain ⟨wst, hw0⟩ : ∃ wst, wst = wM y a f sv ai tx sm ln th hh := ⟨_, rfl⟩
  have hA : ∀ q, ss.heap.size ≤ q → va_A wst sz q := by rw [hw0]; exact hA
  obtain ⟨Q, hQ⟩ : ∃ Q, Q = MQ below (va_Qv (fun _ : Unit => True) (zB D vwCl (zT y) wst sz (fun _ : Unit => wM y a f (svS sv f sm) ai tx (smS sm) ln th hh)) (va_A wst sz)) args ss 0 0 (va_A wst sz) := ⟨_, rfl⟩
  have hstart : Gz pp l ee ({ frames := 0, cells := 0, slots := 0, locals := 0 } : Room) ss mm args below meth cd 2 0 0 Q (Zw D vwCl (va_A wst sz) ss (wM y a f sv ai tx sm ln th hh)) 0 [(0, .ref (a 0))] [] := by
    refine z_aload_n mx mb dX5_saves_0 rfl 0 rfl ?_
    refine z_get (C := RX5) (T := TX5) (N := 8) mx mb mts (in_X5_saves_X5) mo hK zgw 0 wM_0 rfl 3 (by decide) (mts _ (List.mem_of_getElem? (i := 1) rfl)) (fun _ h9 => h9) rfl dX5_saves_1 ?_
    refine z_iconst mx mb dX5_saves_4 ?_
    have jn49 : ∀ (g : Int → Int) (q : Int), (g = if sm = 4 then shS sv 513 else sv) → (q = if sm = 4 then 3 else sm) → (0 ≤ q ∧ q ≤ 3) → Gz pp l ee ({ frames := 0, cells := 0, slots := 0, locals := 0 } : Room) ss mm args below meth cd 2 0 0 Q (Zw D vwCl (va_A wst sz) ss (wM y a f g ai tx q ln th hh)) 49 [(0, .ref (a 0))] [] := by
      intro g q eg eq hq
      refine z_iconst mx mb dX5_saves_49 ?_
      refine z_istore_n mx mb dX5_saves_50 rfl (by decide) [(1, .int (iZ 0)), (0, .ref (a 0))] rfl ?_
      have lp51 : ∀ (nn : Nat) (i : Nat) (x1 : Int) (g2 : Int → Int), 171 - i < nn → ((i : Int) ≤ 171) → (x1 = (i : Int)) → (g2 = cpS g f (171 * q) i) → Gz pp l ee ({ frames := 0, cells := 0, slots := 0, locals := 0 } : Room) ss mm args below meth cd 2 0 0 Q (Zw D vwCl (va_A wst sz) ss (wM y a f g2 ai tx q ln th hh)) 51 [(0, .ref (a 0)), (1, .int (iZ x1))] [] := by
        intro nn
        induction nn with
        | zero => exact fun i x1 g2 hm => absurd hm (Nat.not_lt_zero _)
        | succ nn ih =>
          intro i x1 g2 hm hi e1 eg2
          refine z_iload_n mx mb dX5_saves_51 rfl 1 rfl ?_
          refine z_sipush mx mb dX5_saves_52 (by decide +kernel) ?_
          refine z_icmp_ge (tgt := 85) mx mb (by omega) (by omega) dX5_saves_55 (by decide) (fun c55 => ?_) (fun c55 => ?_)
          · skip
            have hi6 : i = 171 := by omega
            refine z_aload_n mx mb dX5_saves_85 rfl 0 rfl ?_
            refine z_dup mx mb dX5_saves_86 rfl ?_
            refine z_get (C := RX5) (T := TX5) (N := 8) mx mb mts (in_X5_saves_X5) mo hK zgw 0 wM_0 rfl 3 (by decide) (mts _ (List.mem_of_getElem? (i := 1) rfl)) (fun _ h9 => h9) rfl dX5_saves_87 ?_
            refine z_iconst mx mb dX5_saves_90 ?_
            refine z_iadd mx mb dX5_saves_91 ?_
            refine z_put (ty := .int) (C := RX5) (T := TX5) (N := 8) mx mb mts (in_X5_saves_X5) tyX5_ok nmX5 mo hK 0 wM_0 rfl 3 (by decide) (mts _ (List.mem_of_getElem? (i := 1) rfl)) (fun _ h9 => h9) rfl (by decide +kernel) rfl rfl (Nat.le_of_ble_eq_true rfl) dX5_saves_92 (wM y a f g2 ai tx (q + 1) ln th hh) rfl ?_
            rw [hQ]
            exact z_retV mx mb mr mlk hK () (by trivial) (by unfold svS smS; rw [eg2, hi6, eg, eq]) dX5_saves_95
          · skip
            refine z_aload_n mx mb dX5_saves_58 rfl 0 rfl ?_
            refine z_get (C := RX5) (T := TX5) (N := 8) mx mb mts (in_X5_saves_X5) mo hK zgw 0 wM_0 rfl 1 (by decide) (mts _ (List.mem_of_getElem? (i := 2) rfl)) (fun _ h9 => h9) rfl dX5_saves_59 ?_
            refine z_sipush mx mb dX5_saves_62 (by decide +kernel) ?_
            refine z_aload_n mx mb dX5_saves_65 rfl 0 rfl ?_
            refine z_get (C := RX5) (T := TX5) (N := 8) mx mb mts (in_X5_saves_X5) mo hK zgw 0 wM_0 rfl 3 (by decide) (mts _ (List.mem_of_getElem? (i := 1) rfl)) (fun _ h9 => h9) rfl dX5_saves_66 ?_
            refine z_imul mx mb dX5_saves_69 ?_
            refine z_iload_n mx mb dX5_saves_70 rfl 1 rfl ?_
            refine z_iadd mx mb dX5_saves_71 ?_
            refine z_aload_n mx mb dX5_saves_72 rfl 0 rfl ?_
            refine z_get (C := RX5) (T := TX5) (N := 8) mx mb mts (in_X5_saves_X5) mo hK zgw 0 wM_0 rfl 0 (by decide) (mts _ (List.mem_of_getElem? (i := 3) rfl)) (fun _ h9 => h9) rfl dX5_saves_73 ?_
            refine z_iload_n mx mb dX5_saves_76 rfl 1 rfl ?_
            refine z_iald mx mb hK zgw 1 0 wM_1 rfl (by decide) (by omega) dX5_saves_77 ?_
            refine z_iast mx mb hK 2 0 wM_2 rfl (by decide) (by omega) dX5_saves_78 (wM y a f (zu g2 ((171 * q) + x1) (f x1)) ai tx q ln th hh) wM_s2 ?_
            refine z_iinc mx mb dX5_saves_79 1 rfl (by decide) [(1, .int (iZ (x1 + 1))), (0, .ref (a 0))] rfl ?_
            refine z_goto (tgt := 51) mx mb dX5_saves_82 (by decide) ?_
            refine z_lv [1, 0] rfl ?_
            exact ih (i + 1) _ _ (by omega) (by omega) (by omega) (by rw [cpS, ← eg2, e1])
      refine z_lv [1, 0] rfl ?_
      exact lp51 _ 0 0 g (Nat.lt_succ_self _) (by omega) (by rfl) (by rfl)
    refine z_icmp_ne (tgt := 49) mx mb (by omega) (by omega) dX5_saves_5 (by decide) (fun c5 => ?_) (fun c5 => ?_)
    · skip
      exact jn49 _ _ (by rw [if_neg c5]) (by rw [if_neg c5]) (by omega)
    · skip
      refine z_iconst mx mb dX5_saves_8 ?_
      refine z_istore_n mx mb dX5_saves_9 rfl (by decide) [(1, .int (iZ 0)), (0, .ref (a 0))] rfl ?_
      have lp10 : ∀ (nn : Nat) (i : Nat) (x1 : Int) (g : Int → Int), 513 - i < nn → ((i : Int) ≤ 513) → (x1 = (i : Int)) → (g = shS sv i) → Gz pp l ee ({ frames := 0, cells := 0, slots := 0, locals := 0 } : Room) ss mm args below meth cd 2 0 0 Q (Zw D vwCl (va_A wst sz) ss (wM y a f g ai tx sm ln th hh)) 10 [(0, .ref (a 0)), (1, .int (iZ x1))] [] := by
        intro nn
        induction nn with
        | zero => exact fun i x1 g hm => absurd hm (Nat.not_lt_zero _)
        | succ nn ih =>
          intro i x1 g hm hi e1 eg
          refine z_iload_n mx mb dX5_saves_10 rfl 1 rfl ?_
          refine z_sipush mx mb dX5_saves_11 (by decide +kernel) ?_
          refine z_icmp_ge (tgt := 39) mx mb (by omega) (by omega) dX5_saves_14 (by decide) (fun c14 => ?_) (fun c14 => ?_)
          · skip
            have hi5 : i = 513 := by omega
            refine z_aload_n mx mb dX5_saves_39 rfl 0 rfl ?_
            refine z_dup mx mb dX5_saves_40 rfl ?_
            refine z_get (C := RX5) (T := TX5) (N := 8) mx mb mts (in_X5_saves_X5) mo hK zgw 0 wM_0 rfl 3 (by decide) (mts _ (List.mem_of_getElem? (i := 1) rfl)) (fun _ h9 => h9) rfl dX5_saves_41 ?_
            refine z_iconst mx mb dX5_saves_44 ?_
            refine z_isub mx mb dX5_saves_45 ?_
            refine z_put (ty := .int) (C := RX5) (T := TX5) (N := 8) mx mb mts (in_X5_saves_X5) tyX5_ok nmX5 mo hK 0 wM_0 rfl 3 (by decide) (mts _ (List.mem_of_getElem? (i := 1) rfl)) (fun _ h9 => h9) rfl (by decide +kernel) rfl rfl (Nat.le_of_ble_eq_true rfl) dX5_saves_46 (wM y a f g ai tx (sm - 1) ln th hh) rfl ?_
            refine z_lv [0] rfl ?_
            exact jn49 _ _ (by rw [if_pos c5, eg, hi5]) (by rw [if_pos c5]; omega) (by omega)
          · skip
            refine z_aload_n mx mb dX5_saves_17 rfl 0 rfl ?_
            refine z_get (C := RX5) (T := TX5) (N := 8) mx mb mts (in_X5_saves_X5) mo hK zgw 0 wM_0 rfl 1 (by decide) (mts _ (List.mem_of_getElem? (i := 2) rfl)) (fun _ h9 => h9) rfl dX5_saves_18 ?_
            refine z_iload_n mx mb dX5_saves_21 rfl 1 rfl ?_
            refine z_aload_n mx mb dX5_saves_22 rfl 0 rfl ?_
            refine z_get (C := RX5) (T := TX5) (N := 8) mx mb mts (in_X5_saves_X5) mo hK zgw 0 wM_0 rfl 1 (by decide) (mts _ (List.mem_of_getElem? (i := 2) rfl)) (fun _ h9 => h9) rfl dX5_saves_23 ?_
            refine z_iload_n mx mb dX5_saves_26 rfl 1 rfl ?_
            refine z_sipush mx mb dX5_saves_27 (by decide +kernel) ?_
            refine z_iadd mx mb dX5_saves_30 ?_
            refine z_iald mx mb hK zgw 2 0 wM_2 rfl (by decide) (by omega) dX5_saves_31 ?_
            refine z_iast mx mb hK 2 0 wM_2 rfl (by decide) (by omega) dX5_saves_32 (wM y a f (zu g x1 (g (x1 + 171))) ai tx sm ln th hh) wM_s2 ?_
            refine z_iinc mx mb dX5_saves_33 1 rfl (by decide) [(1, .int (iZ (x1 + 1))), (0, .ref (a 0))] rfl ?_
            refine z_goto (tgt := 10) mx mb dX5_saves_36 (by decide) ?_
            refine z_lv [1, 0] rfl ?_
            exact ih (i + 1) _ _ (by omega) (by omega) (by omega) (by rw [shS, ← eg, e1])
      refine z_lv [1, 0] rfl ?_
      exact lp10 _ 0 0 sv (Nat.lt_succ_self _) (by omega) (by rfl) (by rfl)
  subst hQ
  subst hw0
  exact hstart

theorem in_X5_laysAside_X5 : ∀ w ∈ wsX50, w ∈ wsX5_laysAside := by decide +kernel
set_option maxRecDepth 100000 in
set_option maxHeartbeats 4000000 in
theorem c_X5_laysAside (l : Launch) (D : va_G) (sz : Nat) (y : Nat → ClassId) (a : Nat → Nat) (f sv ai tx : Int → Int) (sm ln th hh : Int)  : Met l yX5_laysAside wsX5_laysAside ({ frames := 0, cells := 0, slots := 0, locals := 0 } : Room) (zPw D vwCl (zT y) (wM y a f sv ai tx sm ln th hh) sz [.ref (a 0)]) (va_Qv (fun _ : Unit => True) (zB D vwCl (zT y) (wM y a f sv ai tx sm ln th hh) sz (fun _ : Unit => wM y a f sv (cpN ai f 171) tx sm ln th hh)) (va_A (wM y a f sv ai tx sm ln th hh) sz)) 0 0 (va_A (wM y a f sv ai tx sm ln th hh) sz) := by
  refine z_headW (cc := cX5_laysAside) (maxL := 2) (ret := none) [(0, .ref (a 0))] rfl (Nat.le_of_ble_eq_true rfl) (by decide +kernel) rfl ?_
  intro pp ee ss mm below meth cd mx mb mr mml mo mts mlk hK hname hsz hA
  generalize ([.ref (a 0)] : List Value).toArray = args at mts ⊢
  obtain ⟨wst, hw0⟩ : ∃ wst, wst = wM y a f sv ai tx sm ln th hh := ⟨_, rfl⟩
  have hA : ∀ q, ss.heap.size ≤ q → va_A wst sz q := by rw [hw0]; exact hA
  obtain ⟨Q, hQ⟩ : ∃ Q, Q = MQ below (va_Qv (fun _ : Unit => True) (zB D vwCl (zT y) wst sz (fun _ : Unit => wM y a f sv (cpN ai f 171) tx sm ln th hh)) (va_A wst sz)) args ss 0 0 (va_A wst sz) := ⟨_, rfl⟩
  have hstart : Gz pp l ee ({ frames := 0, cells := 0, slots := 0, locals := 0 } : Room) ss mm args below meth cd 2 0 0 Q (Zw D vwCl (va_A wst sz) ss (wM y a f sv ai tx sm ln th hh)) 0 [(0, .ref (a 0))] [] := by
    refine z_iconst mx mb dX5_laysAside_0 ?_
    refine z_istore_n mx mb dX5_laysAside_1 rfl (by decide) [(1, .int (iZ 0)), (0, .ref (a 0))] rfl ?_
    have lp2 : ∀ (nn : Nat) (i : Nat) (x1 : Int) (g : Int → Int), 171 - i < nn → ((i : Int) ≤ 171) → (x1 = (i : Int)) → (g = cpN ai f i) → Gz pp l ee ({ frames := 0, cells := 0, slots := 0, locals := 0 } : Room) ss mm args below meth cd 2 0 0 Q (Zw D vwCl (va_A wst sz) ss (wM y a f sv g tx sm ln th hh)) 2 [(0, .ref (a 0)), (1, .int (iZ x1))] [] := by
      intro nn
      induction nn with
      | zero => exact fun i x1 g hm => absurd hm (Nat.not_lt_zero _)
      | succ nn ih =>
        intro i x1 g hm hi e1 eg
        refine z_iload_n mx mb dX5_laysAside_2 rfl 1 rfl ?_
        refine z_sipush mx mb dX5_laysAside_3 (by decide +kernel) ?_
        refine z_icmp_ge (tgt := 27) mx mb (by omega) (by omega) dX5_laysAside_6 (by decide) (fun c6 => ?_) (fun c6 => ?_)
        · skip
          have hi5 : i = 171 := by omega
          rw [hQ]
          exact z_retV mx mb mr mlk hK () (by trivial) (by rw [eg, hi5]) dX5_laysAside_27
        · skip
          refine z_aload_n mx mb dX5_laysAside_9 rfl 0 rfl ?_
          refine z_get (C := RX5) (T := TX5) (N := 8) mx mb mts (in_X5_laysAside_X5) mo hK zgw 0 wM_0 rfl 2 (by decide) (mts _ (List.mem_of_getElem? (i := 1) rfl)) (fun _ h9 => h9) rfl dX5_laysAside_10 ?_
          refine z_iload_n mx mb dX5_laysAside_13 rfl 1 rfl ?_
          refine z_aload_n mx mb dX5_laysAside_14 rfl 0 rfl ?_
          refine z_get (C := RX5) (T := TX5) (N := 8) mx mb mts (in_X5_laysAside_X5) mo hK zgw 0 wM_0 rfl 0 (by decide) (mts _ (List.mem_of_getElem? (i := 2) rfl)) (fun _ h9 => h9) rfl dX5_laysAside_15 ?_
          refine z_iload_n mx mb dX5_laysAside_18 rfl 1 rfl ?_
          refine z_iald mx mb hK zgw 1 0 wM_1 rfl (by decide) (by omega) dX5_laysAside_19 ?_
          refine z_iast mx mb hK 3 0 wM_3 rfl (by decide) (by omega) dX5_laysAside_20 (wM y a f sv (zu g x1 (f x1)) tx sm ln th hh) wM_s3 ?_
          refine z_iinc mx mb dX5_laysAside_21 1 rfl (by decide) [(1, .int (iZ (x1 + 1))), (0, .ref (a 0))] rfl ?_
          refine z_goto (tgt := 2) mx mb dX5_laysAside_24 (by decide) ?_
          refine z_lv [1, 0] rfl ?_
          exact ih (i + 1) _ _ (by omega) (by omega) (by omega) (by rw [cpN, ← eg, e1])
    refine z_lv [1, 0] rfl ?_
    exact lp2 _ 0 0 ai (Nat.lt_succ_self _) (by omega) (by rfl) (by rfl)
  subst hQ
  subst hw0
  exact hstart

theorem in_X5_takesBack_X5 : ∀ w ∈ wsX50, w ∈ wsX5_takesBack := by decide +kernel
set_option maxRecDepth 100000 in
set_option maxHeartbeats 4000000 in
theorem c_X5_takesBack (l : Launch) (D : va_G) (sz : Nat) (y : Nat → ClassId) (a : Nat → Nat) (f sv ai tx : Int → Int) (sm ln th hh : Int)  : Met l yX5_takesBack wsX5_takesBack ({ frames := 0, cells := 0, slots := 0, locals := 0 } : Room) (zPw D vwCl (zT y) (wM y a f sv ai tx sm ln th hh) sz [.ref (a 0)]) (va_Qv (fun _ : Unit => True) (zB D vwCl (zT y) (wM y a f sv ai tx sm ln th hh) sz (fun _ : Unit => wM y a (cpN f ai 171) sv ai tx sm ln th hh)) (va_A (wM y a f sv ai tx sm ln th hh) sz)) 0 0 (va_A (wM y a f sv ai tx sm ln th hh) sz) := by
  refine z_headW (cc := cX5_takesBack) (maxL := 2) (ret := none) [(0, .ref (a 0))] rfl (Nat.le_of_ble_eq_true rfl) (by decide +kernel) rfl ?_
  intro pp ee ss mm below meth cd mx mb mr mml mo mts mlk hK hname hsz hA
  generalize ([.ref (a 0)] : List Value).toArray = args at mts ⊢
  obtain ⟨wst, hw0⟩ : ∃ wst, wst = wM y a f sv ai tx sm ln th hh := ⟨_, rfl⟩
  have hA : ∀ q, ss.heap.size ≤ q → va_A wst sz q := by rw [hw0]; exact hA
  obtain ⟨Q, hQ⟩ : ∃ Q, Q = MQ below (va_Qv (fun _ : Unit => True) (zB D vwCl (zT y) wst sz (fun _ : Unit => wM y a (cpN f ai 171) sv ai tx sm ln th hh)) (va_A wst sz)) args ss 0 0 (va_A wst sz) := ⟨_, rfl⟩
  have hstart : Gz pp l ee ({ frames := 0, cells := 0, slots := 0, locals := 0 } : Room) ss mm args below meth cd 2 0 0 Q (Zw D vwCl (va_A wst sz) ss (wM y a f sv ai tx sm ln th hh)) 0 [(0, .ref (a 0))] [] := by
    refine z_iconst mx mb dX5_takesBack_0 ?_
    refine z_istore_n mx mb dX5_takesBack_1 rfl (by decide) [(1, .int (iZ 0)), (0, .ref (a 0))] rfl ?_
    have lp2 : ∀ (nn : Nat) (i : Nat) (x1 : Int) (g : Int → Int), 171 - i < nn → ((i : Int) ≤ 171) → (x1 = (i : Int)) → (g = cpN f ai i) → Gz pp l ee ({ frames := 0, cells := 0, slots := 0, locals := 0 } : Room) ss mm args below meth cd 2 0 0 Q (Zw D vwCl (va_A wst sz) ss (wM y a g sv ai tx sm ln th hh)) 2 [(0, .ref (a 0)), (1, .int (iZ x1))] [] := by
      intro nn
      induction nn with
      | zero => exact fun i x1 g hm => absurd hm (Nat.not_lt_zero _)
      | succ nn ih =>
        intro i x1 g hm hi e1 eg
        refine z_iload_n mx mb dX5_takesBack_2 rfl 1 rfl ?_
        refine z_sipush mx mb dX5_takesBack_3 (by decide +kernel) ?_
        refine z_icmp_ge (tgt := 27) mx mb (by omega) (by omega) dX5_takesBack_6 (by decide) (fun c6 => ?_) (fun c6 => ?_)
        · skip
          have hi5 : i = 171 := by omega
          rw [hQ]
          exact z_retV mx mb mr mlk hK () (by trivial) (by rw [eg, hi5]) dX5_takesBack_27
        · skip
          refine z_aload_n mx mb dX5_takesBack_9 rfl 0 rfl ?_
          refine z_get (C := RX5) (T := TX5) (N := 8) mx mb mts (in_X5_takesBack_X5) mo hK zgw 0 wM_0 rfl 0 (by decide) (mts _ (List.mem_of_getElem? (i := 1) rfl)) (fun _ h9 => h9) rfl dX5_takesBack_10 ?_
          refine z_iload_n mx mb dX5_takesBack_13 rfl 1 rfl ?_
          refine z_aload_n mx mb dX5_takesBack_14 rfl 0 rfl ?_
          refine z_get (C := RX5) (T := TX5) (N := 8) mx mb mts (in_X5_takesBack_X5) mo hK zgw 0 wM_0 rfl 2 (by decide) (mts _ (List.mem_of_getElem? (i := 2) rfl)) (fun _ h9 => h9) rfl dX5_takesBack_15 ?_
          refine z_iload_n mx mb dX5_takesBack_18 rfl 1 rfl ?_
          refine z_iald mx mb hK zgw 3 0 wM_3 rfl (by decide) (by omega) dX5_takesBack_19 ?_
          refine z_iast mx mb hK 1 0 wM_1 rfl (by decide) (by omega) dX5_takesBack_20 (wM y a (zu g x1 (ai x1)) sv ai tx sm ln th hh) wM_s1 ?_
          refine z_iinc mx mb dX5_takesBack_21 1 rfl (by decide) [(1, .int (iZ (x1 + 1))), (0, .ref (a 0))] rfl ?_
          refine z_goto (tgt := 2) mx mb dX5_takesBack_24 (by decide) ?_
          refine z_lv [1, 0] rfl ?_
          exact ih (i + 1) _ _ (by omega) (by omega) (by omega) (by rw [cpN, ← eg, e1])
    refine z_lv [1, 0] rfl ?_
    exact lp2 _ 0 0 f (Nat.lt_succ_self _) (by omega) (by rfl) (by rfl)
  subst hQ
  subst hw0
  exact hstart

theorem in_X5_begins_X5 : ∀ w ∈ wsX50, w ∈ wsX5_begins := by decide +kernel
set_option maxRecDepth 100000 in
set_option maxHeartbeats 4000000 in
theorem c_X5_begins (l : Launch) (D : va_G) (sz : Nat) (y : Nat → ClassId) (a : Nat → Nat) (f sv ai tx : Int → Int) (sm ln th hh : Int)  : Met l yX5_begins wsX5_begins ({ frames := 1, cells := 0, slots := 0, locals := 22 } : Room) (zPw D vwCl (zT y) (wM y a f sv ai tx sm ln th hh) sz [.ref (a 0)]) (va_Qv (fun _ : Unit => True) (zB D vwCl (zT y) (wM y a f sv ai tx sm ln th hh) sz (fun _ : Unit => wM y a (begun f) sv ai tx sm ln th hh)) (va_A (wM y a f sv ai tx sm ln th hh) sz)) 0 0 (va_A (wM y a f sv ai tx sm ln th hh) sz) := by
  refine z_headW (cc := cX5_begins) (maxL := 2) (ret := none) [(0, .ref (a 0))] rfl (Nat.le_of_ble_eq_true rfl) (by decide +kernel) rfl ?_
  intro pp ee ss mm below meth cd mx mb mr mml mo mts mlk hK hname hsz hA
  generalize ([.ref (a 0)] : List Value).toArray = args at mts ⊢
  obtain ⟨wst, hw0⟩ : ∃ wst, wst = wM y a f sv ai tx sm ln th hh := ⟨_, rfl⟩
  have hA : ∀ q, ss.heap.size ≤ q → va_A wst sz q := by rw [hw0]; exact hA
  obtain ⟨Q, hQ⟩ : ∃ Q, Q = MQ below (va_Qv (fun _ : Unit => True) (zB D vwCl (zT y) wst sz (fun _ : Unit => wM y a (begun f) sv ai tx sm ln th hh)) (va_A wst sz)) args ss 0 0 (va_A wst sz) := ⟨_, rfl⟩
  have hstart : Gz pp l ee ({ frames := 1, cells := 0, slots := 0, locals := 22 } : Room) ss mm args below meth cd 2 0 0 Q (Zw D vwCl (va_A wst sz) ss (wM y a f sv ai tx sm ln th hh)) 0 [(0, .ref (a 0))] [] := by
    refine z_iconst mx mb dX5_begins_0 ?_
    refine z_istore_n mx mb dX5_begins_1 rfl (by decide) [(1, .int (iZ 0)), (0, .ref (a 0))] rfl ?_
    have lp2 : ∀ (nn : Nat) (i : Nat) (x1 : Int) (g : Int → Int), 171 - i < nn → ((i : Int) ≤ 171) → (x1 = (i : Int)) → (g = bgn f i) → Gz pp l ee ({ frames := 1, cells := 0, slots := 0, locals := 22 } : Room) ss mm args below meth cd 2 0 0 Q (Zw D vwCl (va_A wst sz) ss (wM y a g sv ai tx sm ln th hh)) 2 [(0, .ref (a 0)), (1, .int (iZ x1))] [] := by
      intro nn
      induction nn with
      | zero => exact fun i x1 g hm => absurd hm (Nat.not_lt_zero _)
      | succ nn ih =>
        intro i x1 g hm hi e1 eg
        refine z_iload_n mx mb dX5_begins_2 rfl 1 rfl ?_
        refine z_sipush mx mb dX5_begins_3 (by decide +kernel) ?_
        refine z_icmp_ge (tgt := 41) mx mb (by omega) (by omega) dX5_begins_6 (by decide) (fun c6 => ?_) (fun c6 => ?_)
        · skip
          have hi5 : i = 171 := by omega
          refine z_aload_n mx mb dX5_begins_41 rfl 0 rfl ?_
          refine z_get (C := RX5) (T := TX5) (N := 8) mx mb mts (in_X5_begins_X5) mo hK zgw 0 wM_0 rfl 0 (by decide) (mts _ (List.mem_of_getElem? (i := 1) rfl)) (fun _ h9 => h9) rfl dX5_begins_42 ?_
          refine z_bipush mx mb dX5_begins_45 (by decide +kernel) ?_
          refine z_iconst mx mb dX5_begins_47 ?_
          refine z_iast mx mb hK 1 0 wM_1 rfl (by decide) (by omega) dX5_begins_48 (wM y a (zu g 9 (-1)) sv ai tx sm ln th hh) wM_s1 ?_
          rw [hQ]
          exact z_retV mx mb mr mlk hK () (by trivial) (by rw [eg, hi5]; rfl) dX5_begins_49
        · skip
          refine z_aload_n mx mb dX5_begins_9 rfl 0 rfl ?_
          refine z_get (C := RX5) (T := TX5) (N := 8) mx mb mts (in_X5_begins_X5) mo hK zgw 0 wM_0 rfl 0 (by decide) (mts _ (List.mem_of_getElem? (i := 1) rfl)) (fun _ h9 => h9) rfl dX5_begins_10 ?_
          refine z_iload_n mx mb dX5_begins_13 rfl 1 rfl ?_
          refine z_iload_n mx mb dX5_begins_14 rfl 1 rfl ?_
          refine z_iconst mx mb dX5_begins_15 ?_
          refine z_bipush mx mb dX5_begins_16 (by decide +kernel) ?_
          refine z_callPS (As := [.int (iZ x1), .int (iZ 4), .int (iZ 7)]) (rest := [.int (iZ x1), .ref (a 1)]) ⟨mx, mb, mml, mo, mts⟩ hK zgw (c_X5_in l D y x1 4 7 (by omega) (by omega) (by omega)) (cwS 3 mts gX5_begins_X5_in rfl rfl rfl (by decide +kernel) ⟨Nat.le_of_ble_eq_true rfl, Nat.le_of_ble_eq_true rfl⟩) (fun _ h => nomatch h) rfl rfl (Nat.le_of_ble_eq_true rfl) ⟨Nat.zero_le _, Nat.zero_le _⟩ dX5_begins_18 ?_
          refine z_if_eq (tgt := 33) mx mb (b2z_rng _) dX5_begins_21 (by decide) (fun c21 => ?_) (fun c21 => ?_)
          · skip
            refine z_iconst mx mb dX5_begins_33 ?_
            refine z_iast mx mb hK 1 0 wM_1 rfl (by decide) (by omega) dX5_begins_34 (wM y a (zu g x1 0) sv ai tx sm ln th hh) wM_s1 ?_
            refine z_iinc mx mb dX5_begins_35 1 rfl (by decide) [(1, .int (iZ (x1 + 1))), (0, .ref (a 0))] rfl ?_
            refine z_goto (tgt := 2) mx mb dX5_begins_38 (by decide) ?_
            refine z_lv [1, 0] rfl ?_
            exact ih (i + 1) _ _ (by omega) (by omega) (by omega) (by rw [bgn, ← eg, ← e1, if_neg (b2z_e c21)])
          · skip
            refine z_aload_n mx mb dX5_begins_24 rfl 0 rfl ?_
            refine z_get (C := RX5) (T := TX5) (N := 8) mx mb mts (in_X5_begins_X5) mo hK zgw 0 wM_0 rfl 0 (by decide) (mts _ (List.mem_of_getElem? (i := 1) rfl)) (fun _ h9 => h9) rfl dX5_begins_25 ?_
            refine z_iload_n mx mb dX5_begins_28 rfl 1 rfl ?_
            refine z_iald mx mb hK zgw 1 0 wM_1 rfl (by decide) (by omega) dX5_begins_29 ?_
            refine z_goto (tgt := 34) mx mb dX5_begins_30 (by decide) ?_
            refine z_iast mx mb hK 1 0 wM_1 rfl (by decide) (by omega) dX5_begins_34 (wM y a (zu g x1 (g x1)) sv ai tx sm ln th hh) wM_s1 ?_
            refine z_iinc mx mb dX5_begins_35 1 rfl (by decide) [(1, .int (iZ (x1 + 1))), (0, .ref (a 0))] rfl ?_
            refine z_goto (tgt := 2) mx mb dX5_begins_38 (by decide) ?_
            refine z_lv [1, 0] rfl ?_
            exact ih (i + 1) _ _ (by omega) (by omega) (by omega) (by rw [bgn, ← eg, ← e1, if_pos (b2z_ne c21)])
    refine z_lv [1, 0] rfl ?_
    exact lp2 _ 0 0 f (Nat.lt_succ_self _) (by omega) (by rfl) (by rfl)
  subst hQ
  subst hw0
  exact hstart

theorem in_X5_dispatches_X5 : ∀ w ∈ wsX50, w ∈ wsX5_dispatches := by decide +kernel
set_option maxRecDepth 100000 in
set_option maxHeartbeats 4000000 in
theorem c_X5_dispatches (l : Launch) (D : va_G) (sz : Nat) (y : Nat → ClassId) (a : Nat → Nat) (f sv ai tx : Int → Int) (sm ln th hh : Int) (t : Int) (h10 : 0 ≤ f 10 ∧ f 10 ≤ 30) : Met l yX5_dispatches wsX5_dispatches ({ frames := 0, cells := 0, slots := 0, locals := 0 } : Room) (zPw D vwCl (zT y) (wM y a f sv ai tx sm ln th hh) sz [.ref (a 0), .int (iZ t)]) (va_Qv (fun _ : Unit => True) (zB D vwCl (zT y) (wM y a f sv ai tx sm ln th hh) sz (fun _ : Unit => wM y a (dispatches f t) sv ai tx sm ln th hh)) (va_A (wM y a f sv ai tx sm ln th hh) sz)) 0 0 (va_A (wM y a f sv ai tx sm ln th hh) sz) := by
  refine z_headW (cc := cX5_dispatches) (maxL := 3) (ret := none) [(0, .ref (a 0)), (1, .int (iZ t))] rfl (Nat.le_of_ble_eq_true rfl) (by decide +kernel) rfl ?_
  intro pp ee ss mm below meth cd mx mb mr mml mo mts mlk hK hname hsz hA
  generalize ([.ref (a 0), .int (iZ t)] : List Value).toArray = args at mts ⊢
  obtain ⟨wst, hw0⟩ : ∃ wst, wst = wM y a f sv ai tx sm ln th hh := ⟨_, rfl⟩
  have hA : ∀ q, ss.heap.size ≤ q → va_A wst sz q := by rw [hw0]; exact hA
  obtain ⟨Q, hQ⟩ : ∃ Q, Q = MQ below (va_Qv (fun _ : Unit => True) (zB D vwCl (zT y) wst sz (fun _ : Unit => wM y a (dispatches f t) sv ai tx sm ln th hh)) (va_A wst sz)) args ss 0 0 (va_A wst sz) := ⟨_, rfl⟩
  have hstart : Gz pp l ee ({ frames := 0, cells := 0, slots := 0, locals := 0 } : Room) ss mm args below meth cd 3 0 0 Q (Zw D vwCl (va_A wst sz) ss (wM y a f sv ai tx sm ln th hh)) 0 [(0, .ref (a 0)), (1, .int (iZ t))] [] := by
    refine z_aload_n mx mb dX5_dispatches_0 rfl 0 rfl ?_
    refine z_get (C := RX5) (T := TX5) (N := 8) mx mb mts (in_X5_dispatches_X5) mo hK zgw 0 wM_0 rfl 0 (by decide) (mts _ (List.mem_of_getElem? (i := 1) rfl)) (fun _ h9 => h9) rfl dX5_dispatches_1 ?_
    refine z_bipush mx mb dX5_dispatches_4 (by decide +kernel) ?_
    refine z_iald mx mb hK zgw 1 0 wM_1 rfl (by decide) (by omega) dX5_dispatches_6 ?_
    refine z_bipush mx mb dX5_dispatches_7 (by decide +kernel) ?_
    have jn53 : ∀ (g : Int → Int), (g = room30 f) → Gz pp l ee ({ frames := 0, cells := 0, slots := 0, locals := 0 } : Room) ss mm args below meth cd 3 0 0 Q (Zw D vwCl (va_A wst sz) ss (wM y a g sv ai tx sm ln th hh)) 53 [(0, .ref (a 0)), (1, .int (iZ t))] [] := by
      intro g eg
      have r := room30_10 h10
      rw [← eg] at r
      refine z_aload_n mx mb dX5_dispatches_53 rfl 0 rfl ?_
      refine z_get (C := RX5) (T := TX5) (N := 8) mx mb mts (in_X5_dispatches_X5) mo hK zgw 0 wM_0 rfl 0 (by decide) (mts _ (List.mem_of_getElem? (i := 1) rfl)) (fun _ h9 => h9) rfl dX5_dispatches_54 ?_
      refine z_bipush mx mb dX5_dispatches_57 (by decide +kernel) ?_
      refine z_iconst mx mb dX5_dispatches_59 ?_
      refine z_aload_n mx mb dX5_dispatches_60 rfl 0 rfl ?_
      refine z_get (C := RX5) (T := TX5) (N := 8) mx mb mts (in_X5_dispatches_X5) mo hK zgw 0 wM_0 rfl 0 (by decide) (mts _ (List.mem_of_getElem? (i := 1) rfl)) (fun _ h9 => h9) rfl dX5_dispatches_61 ?_
      refine z_bipush mx mb dX5_dispatches_64 (by decide +kernel) ?_
      refine z_iald mx mb hK zgw 1 0 wM_1 rfl (by decide) (by omega) dX5_dispatches_66 ?_
      refine z_imul mx mb dX5_dispatches_67 ?_
      refine z_iadd mx mb dX5_dispatches_68 ?_
      refine z_aload_n mx mb dX5_dispatches_69 rfl 0 rfl ?_
      refine z_get (C := RX5) (T := TX5) (N := 8) mx mb mts (in_X5_dispatches_X5) mo hK zgw 0 wM_0 rfl 0 (by decide) (mts _ (List.mem_of_getElem? (i := 1) rfl)) (fun _ h9 => h9) rfl dX5_dispatches_70 ?_
      refine z_iconst mx mb dX5_dispatches_73 ?_
      refine z_iald mx mb hK zgw 1 0 wM_1 rfl (by decide) (by omega) dX5_dispatches_74 ?_
      refine z_iast mx mb hK 1 0 wM_1 rfl (by decide) (by omega) dX5_dispatches_75 (wM y a (zu g (111 + (2 * (g 10))) (g 3)) sv ai tx sm ln th hh) wM_s1 ?_
      refine z_aload_n mx mb dX5_dispatches_76 rfl 0 rfl ?_
      refine z_get (C := RX5) (T := TX5) (N := 8) mx mb mts (in_X5_dispatches_X5) mo hK zgw 0 wM_0 rfl 0 (by decide) (mts _ (List.mem_of_getElem? (i := 1) rfl)) (fun _ h9 => h9) rfl dX5_dispatches_77 ?_
      refine z_bipush mx mb dX5_dispatches_80 (by decide +kernel) ?_
      refine z_iconst mx mb dX5_dispatches_82 ?_
      refine z_aload_n mx mb dX5_dispatches_83 rfl 0 rfl ?_
      refine z_get (C := RX5) (T := TX5) (N := 8) mx mb mts (in_X5_dispatches_X5) mo hK zgw 0 wM_0 rfl 0 (by decide) (mts _ (List.mem_of_getElem? (i := 1) rfl)) (fun _ h9 => h9) rfl dX5_dispatches_84 ?_
      refine z_bipush mx mb dX5_dispatches_87 (by decide +kernel) ?_
      refine z_iald mx mb hK zgw 1 0 wM_1 rfl (by decide) (by omega) dX5_dispatches_89 ?_
      rw [show (zu g (111 + (2 * (g 10))) (g 3)) 10 = g 10 from by exact zu_n (by omega)]
      refine z_imul mx mb dX5_dispatches_90 ?_
      refine z_iadd mx mb dX5_dispatches_91 ?_
      refine z_iconst mx mb dX5_dispatches_92 ?_
      refine z_iadd mx mb dX5_dispatches_93 ?_
      refine z_iload_n mx mb dX5_dispatches_94 rfl 1 rfl ?_
      refine z_iast mx mb hK 1 0 wM_1 rfl (by decide) (by omega) dX5_dispatches_95 (wM y a (zu (zu g (111 + (2 * (g 10))) (g 3)) ((111 + (2 * (g 10))) + 1) t) sv ai tx sm ln th hh) wM_s1 ?_
      refine z_aload_n mx mb dX5_dispatches_96 rfl 0 rfl ?_
      refine z_get (C := RX5) (T := TX5) (N := 8) mx mb mts (in_X5_dispatches_X5) mo hK zgw 0 wM_0 rfl 0 (by decide) (mts _ (List.mem_of_getElem? (i := 1) rfl)) (fun _ h9 => h9) rfl dX5_dispatches_97 ?_
      refine z_bipush mx mb dX5_dispatches_100 (by decide +kernel) ?_
      refine z_dup2 mx mb dX5_dispatches_102 rfl rfl ?_
      refine z_iald mx mb hK zgw 1 0 wM_1 rfl (by decide) (by omega) dX5_dispatches_103 ?_
      rw [show (zu (zu g (111 + (2 * (g 10))) (g 3)) ((111 + (2 * (g 10))) + 1) t) 10 = g 10 from by rw [zu_n (by omega), zu_n (by omega)]]
      refine z_iconst mx mb dX5_dispatches_104 ?_
      refine z_iadd mx mb dX5_dispatches_105 ?_
      refine z_iast mx mb hK 1 0 wM_1 rfl (by decide) (by omega) dX5_dispatches_106 (wM y a (zu (zu (zu g (111 + (2 * (g 10))) (g 3)) ((111 + (2 * (g 10))) + 1) t) 10 ((g 10) + 1)) sv ai tx sm ln th hh) wM_s1 ?_
      refine z_aload_n mx mb dX5_dispatches_107 rfl 0 rfl ?_
      refine z_get (C := RX5) (T := TX5) (N := 8) mx mb mts (in_X5_dispatches_X5) mo hK zgw 0 wM_0 rfl 0 (by decide) (mts _ (List.mem_of_getElem? (i := 1) rfl)) (fun _ h9 => h9) rfl dX5_dispatches_108 ?_
      refine z_bipush mx mb dX5_dispatches_111 (by decide +kernel) ?_
      refine z_dup2 mx mb dX5_dispatches_113 rfl rfl ?_
      refine z_iald mx mb hK zgw 1 0 wM_1 rfl (by decide) (by omega) dX5_dispatches_114 ?_
      rw [show (zu (zu (zu g (111 + (2 * (g 10))) (g 3)) ((111 + (2 * (g 10))) + 1) t) 10 ((g 10) + 1)) 8 = g 8 from by rw [zu_n (by omega), zu_n (by omega), zu_n (by omega)]]
      refine z_iconst mx mb dX5_dispatches_115 ?_
      refine z_iadd mx mb dX5_dispatches_116 ?_
      refine z_iast mx mb hK 1 0 wM_1 rfl (by decide) (by omega) dX5_dispatches_117 (wM y a (zu (zu (zu (zu g (111 + (2 * (g 10))) (g 3)) ((111 + (2 * (g 10))) + 1) t) 10 ((g 10) + 1)) 8 ((g 8) + 1)) sv ai tx sm ln th hh) wM_s1 ?_
      refine z_aload_n mx mb dX5_dispatches_118 rfl 0 rfl ?_
      refine z_get (C := RX5) (T := TX5) (N := 8) mx mb mts (in_X5_dispatches_X5) mo hK zgw 0 wM_0 rfl 0 (by decide) (mts _ (List.mem_of_getElem? (i := 1) rfl)) (fun _ h9 => h9) rfl dX5_dispatches_119 ?_
      refine z_bipush mx mb dX5_dispatches_122 (by decide +kernel) ?_
      refine z_aload_n mx mb dX5_dispatches_124 rfl 0 rfl ?_
      refine z_get (C := RX5) (T := TX5) (N := 8) mx mb mts (in_X5_dispatches_X5) mo hK zgw 0 wM_0 rfl 0 (by decide) (mts _ (List.mem_of_getElem? (i := 1) rfl)) (fun _ h9 => h9) rfl dX5_dispatches_125 ?_
      refine z_iconst mx mb dX5_dispatches_128 ?_
      refine z_iald mx mb hK zgw 1 0 wM_1 rfl (by decide) (by omega) dX5_dispatches_129 ?_
      rw [show (zu (zu (zu (zu g (111 + (2 * (g 10))) (g 3)) ((111 + (2 * (g 10))) + 1) t) 10 ((g 10) + 1)) 8 ((g 8) + 1)) 3 = g 3 from by rw [zu_n (by omega), zu_n (by omega), zu_n (by omega), zu_n (by omega)]]
      refine z_iast mx mb hK 1 0 wM_1 rfl (by decide) (by omega) dX5_dispatches_130 (wM y a (zu (zu (zu (zu (zu g (111 + (2 * (g 10))) (g 3)) ((111 + (2 * (g 10))) + 1) t) 10 ((g 10) + 1)) 8 ((g 8) + 1)) 9 (g 3)) sv ai tx sm ln th hh) wM_s1 ?_
      rw [hQ]
      exact z_retV mx mb mr mlk hK () (by trivial) (by rw [eg]; rfl) dX5_dispatches_131
    refine z_icmp_ne (tgt := 53) mx mb (by omega) (by omega) dX5_dispatches_9 (by decide) (fun c9 => ?_) (fun c9 => ?_)
    · skip
      exact jn53 _ (by unfold room30; rw [if_neg c9])
    · skip
      refine z_bipush mx mb dX5_dispatches_12 (by decide +kernel) ?_
      refine z_istore_n mx mb dX5_dispatches_14 rfl (by decide) [(2, .int (iZ 111)), (0, .ref (a 0)), (1, .int (iZ t))] rfl ?_
      have lp15 : ∀ (nn : Nat) (i : Nat) (x2 : Int) (g : Int → Int), 58 - i < nn → ((i : Int) ≤ 58) → (x2 = 111 + (i : Int)) → (g = shl f i) → Gz pp l ee ({ frames := 0, cells := 0, slots := 0, locals := 0 } : Room) ss mm args below meth cd 3 0 0 Q (Zw D vwCl (va_A wst sz) ss (wM y a g sv ai tx sm ln th hh)) 15 [(0, .ref (a 0)), (1, .int (iZ t)), (2, .int (iZ x2))] [] := by
        intro nn
        induction nn with
        | zero => exact fun i x2 g hm => absurd hm (Nat.not_lt_zero _)
        | succ nn ih =>
          intro i x2 g hm hi e1 eg
          refine z_iload_n mx mb dX5_dispatches_15 rfl 2 rfl ?_
          refine z_sipush mx mb dX5_dispatches_16 (by decide +kernel) ?_
          refine z_icmp_ge (tgt := 42) mx mb (by omega) (by omega) dX5_dispatches_19 (by decide) (fun c19 => ?_) (fun c19 => ?_)
          · skip
            have hi5 : g = shl f 58 := by rw [eg, show i = 58 by omega]
            refine z_aload_n mx mb dX5_dispatches_42 rfl 0 rfl ?_
            refine z_get (C := RX5) (T := TX5) (N := 8) mx mb mts (in_X5_dispatches_X5) mo hK zgw 0 wM_0 rfl 0 (by decide) (mts _ (List.mem_of_getElem? (i := 1) rfl)) (fun _ h9 => h9) rfl dX5_dispatches_43 ?_
            refine z_bipush mx mb dX5_dispatches_46 (by decide +kernel) ?_
            refine z_dup2 mx mb dX5_dispatches_48 rfl rfl ?_
            refine z_iald mx mb hK zgw 1 0 wM_1 rfl (by decide) (by omega) dX5_dispatches_49 ?_
            refine z_iconst mx mb dX5_dispatches_50 ?_
            refine z_isub mx mb dX5_dispatches_51 ?_
            refine z_iast mx mb hK 1 0 wM_1 rfl (by decide) (by omega) dX5_dispatches_52 (wM y a (zu g 10 ((g 10) - 1)) sv ai tx sm ln th hh) wM_s1 ?_
            refine z_lv [0, 1] rfl ?_
            exact jn53 _ (by unfold room30; rw [if_pos c9, hi5])
          · skip
            refine z_aload_n mx mb dX5_dispatches_22 rfl 0 rfl ?_
            refine z_get (C := RX5) (T := TX5) (N := 8) mx mb mts (in_X5_dispatches_X5) mo hK zgw 0 wM_0 rfl 0 (by decide) (mts _ (List.mem_of_getElem? (i := 1) rfl)) (fun _ h9 => h9) rfl dX5_dispatches_23 ?_
            refine z_iload_n mx mb dX5_dispatches_26 rfl 2 rfl ?_
            refine z_aload_n mx mb dX5_dispatches_27 rfl 0 rfl ?_
            refine z_get (C := RX5) (T := TX5) (N := 8) mx mb mts (in_X5_dispatches_X5) mo hK zgw 0 wM_0 rfl 0 (by decide) (mts _ (List.mem_of_getElem? (i := 1) rfl)) (fun _ h9 => h9) rfl dX5_dispatches_28 ?_
            refine z_iload_n mx mb dX5_dispatches_31 rfl 2 rfl ?_
            refine z_iconst mx mb dX5_dispatches_32 ?_
            refine z_iadd mx mb dX5_dispatches_33 ?_
            refine z_iald mx mb hK zgw 1 0 wM_1 rfl (by decide) (by omega) dX5_dispatches_34 ?_
            refine z_iast mx mb hK 1 0 wM_1 rfl (by decide) (by omega) dX5_dispatches_35 (wM y a (zu g x2 (g (x2 + 2))) sv ai tx sm ln th hh) wM_s1 ?_
            refine z_iinc mx mb dX5_dispatches_36 2 rfl (by decide) [(2, .int (iZ (x2 + 1))), (0, .ref (a 0)), (1, .int (iZ t))] rfl ?_
            refine z_goto (tgt := 15) mx mb dX5_dispatches_39 (by decide) ?_
            refine z_lv [1, 2, 0] rfl ?_
            exact ih (i + 1) _ _ (by omega) (by omega) (by omega) (by rw [shl, ← eg, ← e1])
      refine z_lv [1, 2, 0] rfl ?_
      exact lp15 _ 0 111 f (Nat.lt_succ_self _) (by omega) (by rfl) (by rfl)
  subst hQ
  subst hw0
  exact hstart

set_option maxRecDepth 100000 in
set_option maxHeartbeats 4000000 in
theorem c_X5_waits (l : Launch) (D : va_G) (sz : Nat) (y : Nat → ClassId) (a : Nat → Nat) (f sv ai tx : Int → Int) (sm ln th hh : Int) (t : Int) (ht : 0 ≤ t ∧ t < 4) (hJ : Jx f) : Met l yX5_waits wsX5_waits ({ frames := 4, cells := 0, slots := 0, locals := 92 } : Room) (zPw D vwCl (zT y) (wM y a f sv ai tx sm ln th hh) sz [.ref (a 0), .int (iZ t)]) (va_Qv (fun _ : Unit => True) (zB D vwCl (zT y) (wM y a f sv ai tx sm ln th hh) sz (fun _ : Unit => wM y a (waits f t) sv ai tx sm ln th hh)) (va_A (wM y a f sv ai tx sm ln th hh) sz)) 0 0 (va_A (wM y a f sv ai tx sm ln th hh) sz) := by
  refine z_headW (cc := cX5_waits) (maxL := 2) (ret := none) [(0, .ref (a 0)), (1, .int (iZ t))] rfl (Nat.le_of_ble_eq_true rfl) (by decide +kernel) rfl ?_
  intro pp ee ss mm below meth cd mx mb mr mml mo mts mlk hK hname hsz hA
  generalize ([.ref (a 0), .int (iZ t)] : List Value).toArray = args at mts ⊢
  obtain ⟨wst, hw0⟩ : ∃ wst, wst = wM y a f sv ai tx sm ln th hh := ⟨_, rfl⟩
  have hA : ∀ q, ss.heap.size ≤ q → va_A wst sz q := by rw [hw0]; exact hA
  obtain ⟨Q, hQ⟩ : ∃ Q, Q = MQ below (va_Qv (fun _ : Unit => True) (zB D vwCl (zT y) wst sz (fun _ : Unit => wM y a (waits f t) sv ai tx sm ln th hh)) (va_A wst sz)) args ss 0 0 (va_A wst sz) := ⟨_, rfl⟩
  have hstart : Gz pp l ee ({ frames := 4, cells := 0, slots := 0, locals := 92 } : Room) ss mm args below meth cd 2 0 0 Q (Zw D vwCl (va_A wst sz) ss (wM y a f sv ai tx sm ln th hh)) 0 [(0, .ref (a 0)), (1, .int (iZ t))] [] := by
    obtain ⟨hW, hN, hT⟩ := hJ.f
    obtain ⟨w0, w1, w2, w3, w4, w5, w6⟩ := id hW
    obtain ⟨n3, n4, n5, n6, n7, n8, n9, n10⟩ := id hN
    have k0 := w6 t (by omega) (by omega)
    obtain ⟨q1, q2, q3, q5, q7⟩ := hT t (by omega) (by omega)
    have j1 : Wf (put f t 5 (f (79 + 8 * t + 5) + 1)) := Wf_put hW (by omega) (by omega) (by omega)
    have j2 : Ns (put f t 5 (f (79 + 8 * t + 5) + 1)) := Ns_put hN (by omega) (by omega)
    have hr := holds_rng (put f t 5 (f (79 + 8 * t + 5) + 1)) t (f (79 + 8 * t + 5) + 1)
    have ebk : (blockAt (put f t 5 (f (79 + 8 * t + 5) + 1)) ((put f t 5 (f (79 + 8 * t + 5) + 1)) (79 + 8 * t + 0)) = 0) ↔ (blockAt f (f (79 + 8 * t + 0)) = 0) := by rw [put_n (show 79 + 8 * t + 0 ≠ 79 + 8 * t + 5 by omega), blockAt_put (by omega) (by omega) (by omega)]
    have e10 : 0 ≤ (put f t 5 (f (79 + 8 * t + 5) + 1)) 10 ∧ (put f t 5 (f (79 + 8 * t + 5) + 1)) 10 ≤ 30 := by rw [put_n (show (10 : Int) ≠ 79 + 8 * t + 5 by omega)]; omega
    refine z_aload_n mx mb dX5_waits_0 rfl 0 rfl ?_
    refine z_iload_n mx mb dX5_waits_1 rfl 1 rfl ?_
    refine z_iconst mx mb dX5_waits_2 ?_
    refine z_aload_n mx mb dX5_waits_3 rfl 0 rfl ?_
    refine z_iload_n mx mb dX5_waits_4 rfl 1 rfl ?_
    refine z_iconst mx mb dX5_waits_5 ?_
    refine z_callP (As := [.int (iZ t), .int (iZ 5)]) (rest := [.int (iZ 5), .int (iZ t), .ref (a 0)]) ⟨mx, mb, mml, mo, mts⟩ hK zgw (c_X5_of l D y a f sv ai tx sm ln th hh t 5 (by omega)) (cwV 2 mts gX5_waits_X5_of rfl rfl rfl (by decide +kernel) ⟨Nat.le_of_ble_eq_true rfl, Nat.le_of_ble_eq_true rfl⟩) (fun _ h => h) 0 wM_0 rfl rfl rfl rfl (Nat.le_of_ble_eq_true rfl) ⟨Nat.zero_le _, Nat.zero_le _⟩ dX5_waits_6 ?_
    refine z_iconst mx mb dX5_waits_9 ?_
    refine z_iadd mx mb dX5_waits_10 ?_
    refine z_callV0 (As := [.int (iZ t), .int (iZ 5), .int (iZ ((f (79 + 8 * t + 5)) + 1))]) (rest := []) ⟨mx, mb, mml, mo, mts⟩ hK hA (fun sz => c_X5_put l D sz y a f sv ai tx sm ln th hh t 5 ((f (79 + 8 * t + 5)) + 1) (by omega)) (cwV 3 mts gX5_waits_X5_put rfl rfl rfl (by decide +kernel) ⟨Nat.le_of_ble_eq_true rfl, Nat.le_of_ble_eq_true rfl⟩) 0 wM_0 rfl rfl rfl rfl (Nat.le_of_ble_eq_true rfl) ⟨Nat.zero_le _, Nat.zero_le _⟩ dX5_waits_11 (fun u11 hu11 => ?_)
    show Gz pp l ee ({ frames := 4, cells := 0, slots := 0, locals := 92 } : Room) ss mm args below meth cd 2 0 0 Q (Zw D vwCl (va_A wst sz) ss (wM y a (put f t 5 ((f (79 + 8 * t + 5)) + 1)) sv ai tx sm ln th hh)) 14 [(0, .ref (a 0)), (1, .int (iZ t))] []
    refine z_aload_n mx mb dX5_waits_14 rfl 0 rfl ?_
    refine z_iload_n mx mb dX5_waits_15 rfl 1 rfl ?_
    refine z_aload_n mx mb dX5_waits_16 rfl 0 rfl ?_
    refine z_iload_n mx mb dX5_waits_17 rfl 1 rfl ?_
    refine z_iconst mx mb dX5_waits_18 ?_
    refine z_callP (As := [.int (iZ t), .int (iZ 5)]) (rest := [.int (iZ t), .ref (a 0)]) ⟨mx, mb, mml, mo, mts⟩ hK zgw (c_X5_of l D y a (put f t 5 ((f (79 + 8 * t + 5)) + 1)) sv ai tx sm ln th hh t 5 (by omega)) (cwV 2 mts gX5_waits_X5_of rfl rfl rfl (by decide +kernel) ⟨Nat.le_of_ble_eq_true rfl, Nat.le_of_ble_eq_true rfl⟩) (fun _ h => h) 0 wM_0 rfl rfl rfl rfl (Nat.le_of_ble_eq_true rfl) ⟨Nat.zero_le _, Nat.zero_le _⟩ dX5_waits_19 ?_
    rw [show (put f t 5 ((f (79 + 8 * t + 5)) + 1)) (79 + 8 * t + 5) = f (79 + 8 * t + 5) + 1 from by exact put_s _ _ _ _]
    refine z_callP (As := [.int (iZ t), .int (iZ (f (79 + 8 * t + 5) + 1))]) (rest := []) ⟨mx, mb, mml, mo, mts⟩ hK zgw (c_X5_holds l D y a (put f t 5 ((f (79 + 8 * t + 5)) + 1)) sv ai tx sm ln th hh t (f (79 + 8 * t + 5) + 1) (by omega) (by omega) j1 j2) (cwV 2 mts gX5_waits_X5_holds rfl rfl rfl (by decide +kernel) ⟨Nat.le_of_ble_eq_true rfl, Nat.le_of_ble_eq_true rfl⟩) (fun _ h => h) 0 wM_0 rfl rfl rfl rfl (Nat.le_of_ble_eq_true rfl) ⟨Nat.zero_le _, Nat.zero_le _⟩ dX5_waits_22 ?_
    refine z_iconst mx mb dX5_waits_25 ?_
    refine z_icmp_eq (tgt := 30) mx mb (by omega) (by omega) dX5_waits_26 (by decide) (fun c26 => ?_) (fun c26 => ?_)
    · skip
      refine z_aload_n mx mb dX5_waits_30 rfl 0 rfl ?_
      refine z_iload_n mx mb dX5_waits_31 rfl 1 rfl ?_
      refine z_callP (As := [.int (iZ t)]) (rest := []) ⟨mx, mb, mml, mo, mts⟩ hK zgw (c_X5_isAtStation l D y a (put f t 5 ((f (79 + 8 * t + 5)) + 1)) sv ai tx sm ln th hh t (by omega) j1) (cwV 1 mts gX5_waits_X5_isAtStation rfl rfl rfl (by decide +kernel) ⟨Nat.le_of_ble_eq_true rfl, Nat.le_of_ble_eq_true rfl⟩) (fun _ h => h) 0 wM_0 rfl rfl rfl rfl (Nat.le_of_ble_eq_true rfl) ⟨Nat.zero_le _, Nat.zero_le _⟩ dX5_waits_32 ?_
      refine z_if_eq (tgt := 43) mx mb (b2z_rng _) dX5_waits_35 (by decide) (fun c35 => ?_) (fun c35 => ?_)
      · skip
        refine z_aload_n mx mb dX5_waits_43 rfl 0 rfl ?_
        refine z_iload_n mx mb dX5_waits_44 rfl 1 rfl ?_
        refine z_iconst mx mb dX5_waits_45 ?_
        refine z_iconst mx mb dX5_waits_46 ?_
        refine z_callV0 (As := [.int (iZ t), .int (iZ 4), .int (iZ 0)]) (rest := []) ⟨mx, mb, mml, mo, mts⟩ hK hA (fun sz => c_X5_put l D sz y a (put f t 5 ((f (79 + 8 * t + 5)) + 1)) sv ai tx sm ln th hh t 4 0 (by omega)) (cwV 3 mts gX5_waits_X5_put rfl rfl rfl (by decide +kernel) ⟨Nat.le_of_ble_eq_true rfl, Nat.le_of_ble_eq_true rfl⟩) 0 wM_0 rfl rfl rfl rfl (Nat.le_of_ble_eq_true rfl) ⟨Nat.zero_le _, Nat.zero_le _⟩ dX5_waits_47 (fun u47 hu47 => ?_)
        show Gz pp l ee ({ frames := 4, cells := 0, slots := 0, locals := 92 } : Room) ss mm args below meth cd 2 0 0 Q (Zw D vwCl (va_A wst sz) ss (wM y a (put (put f t 5 ((f (79 + 8 * t + 5)) + 1)) t 4 0) sv ai tx sm ln th hh)) 50 [(0, .ref (a 0)), (1, .int (iZ t))] []
        refine z_aload_n mx mb dX5_waits_50 rfl 0 rfl ?_
        refine z_iload_n mx mb dX5_waits_51 rfl 1 rfl ?_
        refine z_iconst mx mb dX5_waits_52 ?_
        refine z_bipush mx mb dX5_waits_53 (by decide +kernel) ?_
        refine z_callV0 (As := [.int (iZ t), .int (iZ 1), .int (iZ 25)]) (rest := []) ⟨mx, mb, mml, mo, mts⟩ hK hA (fun sz => c_X5_put l D sz y a (put (put f t 5 ((f (79 + 8 * t + 5)) + 1)) t 4 0) sv ai tx sm ln th hh t 1 25 (by omega)) (cwV 3 mts gX5_waits_X5_put rfl rfl rfl (by decide +kernel) ⟨Nat.le_of_ble_eq_true rfl, Nat.le_of_ble_eq_true rfl⟩) 0 wM_0 rfl rfl rfl rfl (Nat.le_of_ble_eq_true rfl) ⟨Nat.zero_le _, Nat.zero_le _⟩ dX5_waits_55 (fun u55 hu55 => ?_)
        show Gz pp l ee ({ frames := 4, cells := 0, slots := 0, locals := 92 } : Room) ss mm args below meth cd 2 0 0 Q (Zw D vwCl (va_A wst sz) ss (wM y a (put (put (put f t 5 ((f (79 + 8 * t + 5)) + 1)) t 4 0) t 1 25) sv ai tx sm ln th hh)) 58 [(0, .ref (a 0)), (1, .int (iZ t))] []
        refine z_aload_n mx mb dX5_waits_58 rfl 0 rfl ?_
        refine z_iload_n mx mb dX5_waits_59 rfl 1 rfl ?_
        refine z_iconst mx mb dX5_waits_60 ?_
        refine z_iconst mx mb dX5_waits_61 ?_
        refine z_callV0 (As := [.int (iZ t), .int (iZ 2), .int (iZ 0)]) (rest := []) ⟨mx, mb, mml, mo, mts⟩ hK hA (fun sz => c_X5_put l D sz y a (put (put (put f t 5 ((f (79 + 8 * t + 5)) + 1)) t 4 0) t 1 25) sv ai tx sm ln th hh t 2 0 (by omega)) (cwV 3 mts gX5_waits_X5_put rfl rfl rfl (by decide +kernel) ⟨Nat.le_of_ble_eq_true rfl, Nat.le_of_ble_eq_true rfl⟩) 0 wM_0 rfl rfl rfl rfl (Nat.le_of_ble_eq_true rfl) ⟨Nat.zero_le _, Nat.zero_le _⟩ dX5_waits_62 (fun u62 hu62 => ?_)
        show Gz pp l ee ({ frames := 4, cells := 0, slots := 0, locals := 92 } : Room) ss mm args below meth cd 2 0 0 Q (Zw D vwCl (va_A wst sz) ss (wM y a (put (put (put (put f t 5 ((f (79 + 8 * t + 5)) + 1)) t 4 0) t 1 25) t 2 0) sv ai tx sm ln th hh)) 65 [(0, .ref (a 0)), (1, .int (iZ t))] []
        refine z_aload_n mx mb dX5_waits_65 rfl 0 rfl ?_
        refine z_iload_n mx mb dX5_waits_66 rfl 1 rfl ?_
        refine z_iconst mx mb dX5_waits_67 ?_
        refine z_iconst mx mb dX5_waits_68 ?_
        refine z_callV0 (As := [.int (iZ t), .int (iZ 5), .int (iZ 0)]) (rest := []) ⟨mx, mb, mml, mo, mts⟩ hK hA (fun sz => c_X5_put l D sz y a (put (put (put (put f t 5 ((f (79 + 8 * t + 5)) + 1)) t 4 0) t 1 25) t 2 0) sv ai tx sm ln th hh t 5 0 (by omega)) (cwV 3 mts gX5_waits_X5_put rfl rfl rfl (by decide +kernel) ⟨Nat.le_of_ble_eq_true rfl, Nat.le_of_ble_eq_true rfl⟩) 0 wM_0 rfl rfl rfl rfl (Nat.le_of_ble_eq_true rfl) ⟨Nat.zero_le _, Nat.zero_le _⟩ dX5_waits_69 (fun u69 hu69 => ?_)
        show Gz pp l ee ({ frames := 4, cells := 0, slots := 0, locals := 92 } : Room) ss mm args below meth cd 2 0 0 Q (Zw D vwCl (va_A wst sz) ss (wM y a (put (put (put (put (put f t 5 ((f (79 + 8 * t + 5)) + 1)) t 4 0) t 1 25) t 2 0) t 5 0) sv ai tx sm ln th hh)) 72 [(0, .ref (a 0)), (1, .int (iZ t))] []
        rw [hQ]
        exact z_retV mx mb mr mlk hK () (by trivial) (by rw [waits, if_pos c26, if_neg (fun q => b2z_e c35 (ebk.mpr q))]; rfl) dX5_waits_72
      · skip
        refine z_aload_n mx mb dX5_waits_38 rfl 0 rfl ?_
        refine z_iload_n mx mb dX5_waits_39 rfl 1 rfl ?_
        refine z_callV0 (As := [.int (iZ t)]) (rest := []) ⟨mx, mb, mml, mo, mts⟩ hK hA (fun sz => c_X5_dispatches l D sz y a (put f t 5 ((f (79 + 8 * t + 5)) + 1)) sv ai tx sm ln th hh t e10) (cwV 1 mts gX5_waits_X5_dispatches rfl rfl rfl (by decide +kernel) ⟨Nat.le_of_ble_eq_true rfl, Nat.le_of_ble_eq_true rfl⟩) 0 wM_0 rfl rfl rfl rfl (Nat.le_of_ble_eq_true rfl) ⟨Nat.zero_le _, Nat.zero_le _⟩ dX5_waits_40 (fun u40 hu40 => ?_)
        show Gz pp l ee ({ frames := 4, cells := 0, slots := 0, locals := 92 } : Room) ss mm args below meth cd 2 0 0 Q (Zw D vwCl (va_A wst sz) ss (wM y a (dispatches (put f t 5 ((f (79 + 8 * t + 5)) + 1)) t) sv ai tx sm ln th hh)) 43 [(0, .ref (a 0)), (1, .int (iZ t))] []
        refine z_aload_n mx mb dX5_waits_43 rfl 0 rfl ?_
        refine z_iload_n mx mb dX5_waits_44 rfl 1 rfl ?_
        refine z_iconst mx mb dX5_waits_45 ?_
        refine z_iconst mx mb dX5_waits_46 ?_
        refine z_callV0 (As := [.int (iZ t), .int (iZ 4), .int (iZ 0)]) (rest := []) ⟨mx, mb, mml, mo, mts⟩ hK hA (fun sz => c_X5_put l D sz y a (dispatches (put f t 5 ((f (79 + 8 * t + 5)) + 1)) t) sv ai tx sm ln th hh t 4 0 (by omega)) (cwV 3 mts gX5_waits_X5_put rfl rfl rfl (by decide +kernel) ⟨Nat.le_of_ble_eq_true rfl, Nat.le_of_ble_eq_true rfl⟩) 0 wM_0 rfl rfl rfl rfl (Nat.le_of_ble_eq_true rfl) ⟨Nat.zero_le _, Nat.zero_le _⟩ dX5_waits_47 (fun u47 hu47 => ?_)
        show Gz pp l ee ({ frames := 4, cells := 0, slots := 0, locals := 92 } : Room) ss mm args below meth cd 2 0 0 Q (Zw D vwCl (va_A wst sz) ss (wM y a (put (dispatches (put f t 5 ((f (79 + 8 * t + 5)) + 1)) t) t 4 0) sv ai tx sm ln th hh)) 50 [(0, .ref (a 0)), (1, .int (iZ t))] []
        refine z_aload_n mx mb dX5_waits_50 rfl 0 rfl ?_
        refine z_iload_n mx mb dX5_waits_51 rfl 1 rfl ?_
        refine z_iconst mx mb dX5_waits_52 ?_
        refine z_bipush mx mb dX5_waits_53 (by decide +kernel) ?_
        refine z_callV0 (As := [.int (iZ t), .int (iZ 1), .int (iZ 25)]) (rest := []) ⟨mx, mb, mml, mo, mts⟩ hK hA (fun sz => c_X5_put l D sz y a (put (dispatches (put f t 5 ((f (79 + 8 * t + 5)) + 1)) t) t 4 0) sv ai tx sm ln th hh t 1 25 (by omega)) (cwV 3 mts gX5_waits_X5_put rfl rfl rfl (by decide +kernel) ⟨Nat.le_of_ble_eq_true rfl, Nat.le_of_ble_eq_true rfl⟩) 0 wM_0 rfl rfl rfl rfl (Nat.le_of_ble_eq_true rfl) ⟨Nat.zero_le _, Nat.zero_le _⟩ dX5_waits_55 (fun u55 hu55 => ?_)
        show Gz pp l ee ({ frames := 4, cells := 0, slots := 0, locals := 92 } : Room) ss mm args below meth cd 2 0 0 Q (Zw D vwCl (va_A wst sz) ss (wM y a (put (put (dispatches (put f t 5 ((f (79 + 8 * t + 5)) + 1)) t) t 4 0) t 1 25) sv ai tx sm ln th hh)) 58 [(0, .ref (a 0)), (1, .int (iZ t))] []
        refine z_aload_n mx mb dX5_waits_58 rfl 0 rfl ?_
        refine z_iload_n mx mb dX5_waits_59 rfl 1 rfl ?_
        refine z_iconst mx mb dX5_waits_60 ?_
        refine z_iconst mx mb dX5_waits_61 ?_
        refine z_callV0 (As := [.int (iZ t), .int (iZ 2), .int (iZ 0)]) (rest := []) ⟨mx, mb, mml, mo, mts⟩ hK hA (fun sz => c_X5_put l D sz y a (put (put (dispatches (put f t 5 ((f (79 + 8 * t + 5)) + 1)) t) t 4 0) t 1 25) sv ai tx sm ln th hh t 2 0 (by omega)) (cwV 3 mts gX5_waits_X5_put rfl rfl rfl (by decide +kernel) ⟨Nat.le_of_ble_eq_true rfl, Nat.le_of_ble_eq_true rfl⟩) 0 wM_0 rfl rfl rfl rfl (Nat.le_of_ble_eq_true rfl) ⟨Nat.zero_le _, Nat.zero_le _⟩ dX5_waits_62 (fun u62 hu62 => ?_)
        show Gz pp l ee ({ frames := 4, cells := 0, slots := 0, locals := 92 } : Room) ss mm args below meth cd 2 0 0 Q (Zw D vwCl (va_A wst sz) ss (wM y a (put (put (put (dispatches (put f t 5 ((f (79 + 8 * t + 5)) + 1)) t) t 4 0) t 1 25) t 2 0) sv ai tx sm ln th hh)) 65 [(0, .ref (a 0)), (1, .int (iZ t))] []
        refine z_aload_n mx mb dX5_waits_65 rfl 0 rfl ?_
        refine z_iload_n mx mb dX5_waits_66 rfl 1 rfl ?_
        refine z_iconst mx mb dX5_waits_67 ?_
        refine z_iconst mx mb dX5_waits_68 ?_
        refine z_callV0 (As := [.int (iZ t), .int (iZ 5), .int (iZ 0)]) (rest := []) ⟨mx, mb, mml, mo, mts⟩ hK hA (fun sz => c_X5_put l D sz y a (put (put (put (dispatches (put f t 5 ((f (79 + 8 * t + 5)) + 1)) t) t 4 0) t 1 25) t 2 0) sv ai tx sm ln th hh t 5 0 (by omega)) (cwV 3 mts gX5_waits_X5_put rfl rfl rfl (by decide +kernel) ⟨Nat.le_of_ble_eq_true rfl, Nat.le_of_ble_eq_true rfl⟩) 0 wM_0 rfl rfl rfl rfl (Nat.le_of_ble_eq_true rfl) ⟨Nat.zero_le _, Nat.zero_le _⟩ dX5_waits_69 (fun u69 hu69 => ?_)
        show Gz pp l ee ({ frames := 4, cells := 0, slots := 0, locals := 92 } : Room) ss mm args below meth cd 2 0 0 Q (Zw D vwCl (va_A wst sz) ss (wM y a (put (put (put (put (dispatches (put f t 5 ((f (79 + 8 * t + 5)) + 1)) t) t 4 0) t 1 25) t 2 0) t 5 0) sv ai tx sm ln th hh)) 72 [(0, .ref (a 0)), (1, .int (iZ t))] []
        rw [hQ]
        exact z_retV mx mb mr mlk hK () (by trivial) (by rw [waits, if_pos c26, if_pos (ebk.mp (b2z_ne c35))]; rfl) dX5_waits_72
    · skip
      rw [hQ]
      exact z_retV mx mb mr mlk hK () (by trivial) (by rw [waits, if_neg c26]) dX5_waits_29
  subst hQ
  subst hw0
  exact hstart

theorem in_X5_comes_X5 : ∀ w ∈ wsX50, w ∈ wsX5_comes := by decide +kernel
set_option maxRecDepth 100000 in
set_option maxHeartbeats 4000000 in
theorem c_X5_comes (l : Launch) (D : va_G) (sz : Nat) (y : Nat → ClassId) (a : Nat → Nat) (f sv ai tx : Int → Int) (sm ln th hh : Int) (t : Int) (ht : 0 ≤ t ∧ t < 4) (hJ : Jx f) : Met l yX5_comes wsX5_comes ({ frames := 3, cells := 0, slots := 0, locals := 70 } : Room) (zPw D vwCl (zT y) (wM y a f sv ai tx sm ln th hh) sz [.ref (a 0), .int (iZ t)]) (va_Qv (fun _ : Unit => True) (zB D vwCl (zT y) (wM y a f sv ai tx sm ln th hh) sz (fun _ : Unit => wM y a (comes f t) sv ai tx sm ln th hh)) (va_A (wM y a f sv ai tx sm ln th hh) sz)) 0 0 (va_A (wM y a f sv ai tx sm ln th hh) sz) := by
  refine z_headW (cc := cX5_comes) (maxL := 3) (ret := none) [(0, .ref (a 0)), (1, .int (iZ t))] rfl (Nat.le_of_ble_eq_true rfl) (by decide +kernel) rfl ?_
  intro pp ee ss mm below meth cd mx mb mr mml mo mts mlk hK hname hsz hA
  generalize ([.ref (a 0), .int (iZ t)] : List Value).toArray = args at mts ⊢
  obtain ⟨wst, hw0⟩ : ∃ wst, wst = wM y a f sv ai tx sm ln th hh := ⟨_, rfl⟩
  have hA : ∀ q, ss.heap.size ≤ q → va_A wst sz q := by rw [hw0]; exact hA
  obtain ⟨Q, hQ⟩ : ∃ Q, Q = MQ below (va_Qv (fun _ : Unit => True) (zB D vwCl (zT y) wst sz (fun _ : Unit => wM y a (comes f t) sv ai tx sm ln th hh)) (va_A wst sz)) args ss 0 0 (va_A wst sz) := ⟨_, rfl⟩
  have hstart : Gz pp l ee ({ frames := 3, cells := 0, slots := 0, locals := 70 } : Room) ss mm args below meth cd 3 0 0 Q (Zw D vwCl (va_A wst sz) ss (wM y a f sv ai tx sm ln th hh)) 0 [(0, .ref (a 0)), (1, .int (iZ t))] [] := by
    obtain ⟨hW, hN, hT⟩ := hJ.f
    obtain ⟨w0, w1, w2, w3, w4, w5, w6⟩ := id hW
    obtain ⟨n3, n4, n5, n6, n7, n8, n9, n10⟩ := id hN
    have k0 := w6 t (by omega) (by omega)
    obtain ⟨q1, q2, q3, q5, q7⟩ := hT t (by omega) (by omega)
    have kb := blockAt_rng hW k0.1
    have kn := nextB_rng hW kb
    have j1 := (hJ.stands (t := t) (by omega)).f.1
    have e1 : stands f t 1 = f 1 := stands_2 (by omega) (by omega)
    refine z_aload_n mx mb dX5_comes_0 rfl 0 rfl ?_
    refine z_aload_n mx mb dX5_comes_1 rfl 0 rfl ?_
    refine z_iload_n mx mb dX5_comes_2 rfl 1 rfl ?_
    refine z_iconst mx mb dX5_comes_3 ?_
    refine z_callP (As := [.int (iZ t), .int (iZ 0)]) (rest := [.ref (a 0)]) ⟨mx, mb, mml, mo, mts⟩ hK zgw (c_X5_of l D y a f sv ai tx sm ln th hh t 0 (by omega)) (cwV 2 mts gX5_comes_X5_of rfl rfl rfl (by decide +kernel) ⟨Nat.le_of_ble_eq_true rfl, Nat.le_of_ble_eq_true rfl⟩) (fun _ h => h) 0 wM_0 rfl rfl rfl rfl (Nat.le_of_ble_eq_true rfl) ⟨Nat.zero_le _, Nat.zero_le _⟩ dX5_comes_4 ?_
    refine z_callP (As := [.int (iZ (f (79 + 8 * t + 0)))]) (rest := []) ⟨mx, mb, mml, mo, mts⟩ hK zgw (c_X5_blockAt l D y a f sv ai tx sm ln th hh (f (79 + 8 * t + 0)) (by omega) (by assumption)) (cwV 1 mts gX5_comes_X5_blockAt rfl rfl rfl (by decide +kernel) ⟨Nat.le_of_ble_eq_true rfl, Nat.le_of_ble_eq_true rfl⟩) (fun _ h => h) 0 wM_0 rfl rfl rfl rfl (Nat.le_of_ble_eq_true rfl) ⟨Nat.zero_le _, Nat.zero_le _⟩ dX5_comes_7 ?_
    refine z_istore_n mx mb dX5_comes_10 rfl (by decide) [(2, .int (iZ (blockAt f (f (79 + 8 * t + 0))))), (0, .ref (a 0)), (1, .int (iZ t))] rfl ?_
    refine z_aload_n mx mb dX5_comes_11 rfl 1 rfl ?_
    refine z_iload_n mx mb dX5_comes_12 rfl 2 rfl ?_
    refine z_callV0 (As := [.int (iZ t)]) (rest := []) ⟨mx, mb, mml, mo, mts⟩ hK hA (fun sz => c_X5_stands l D sz y a f sv ai tx sm ln th hh t (by omega)) (cwV 1 mts gX5_comes_X5_stands rfl rfl rfl (by decide +kernel) ⟨Nat.le_of_ble_eq_true rfl, Nat.le_of_ble_eq_true rfl⟩) 0 wM_0 rfl rfl rfl rfl (Nat.le_of_ble_eq_true rfl) ⟨Nat.zero_le _, Nat.zero_le _⟩ dX5_comes_13 (fun u13 hu13 => ?_)
    show Gz pp l ee ({ frames := 3, cells := 0, slots := 0, locals := 70 } : Room) ss mm args below meth cd 3 0 0 Q (Zw D vwCl (va_A wst sz) ss (wM y a (stands f t) sv ai tx sm ln th hh)) 16 [(2, .int (iZ (blockAt f (f (79 + 8 * t + 0))))), (0, .ref (a 0)), (1, .int (iZ t))] []
    refine z_aload_n mx mb dX5_comes_16 rfl 1 rfl ?_
    refine z_get (C := RX5) (T := TX5) (N := 8) mx mb mts (in_X5_comes_X5) mo hK zgw 0 wM_0 rfl 0 (by decide) (mts _ (List.mem_of_getElem? (i := 1) rfl)) (fun _ h9 => h9) rfl dX5_comes_17 ?_
    refine z_bipush mx mb dX5_comes_20 (by decide +kernel) ?_
    refine z_iload_n mx mb dX5_comes_22 rfl 0 rfl ?_
    refine z_iadd mx mb dX5_comes_23 ?_
    refine z_dup2 mx mb dX5_comes_24 rfl rfl ?_
    refine z_iald mx mb hK zgw 1 0 wM_1 rfl (by decide) (by omega) dX5_comes_25 ?_
    refine z_aload_n mx mb dX5_comes_26 rfl 1 rfl ?_
    refine z_aload_n mx mb dX5_comes_27 rfl 1 rfl ?_
    refine z_iload_n mx mb dX5_comes_28 rfl 0 rfl ?_
    refine z_callP (As := [.int (iZ (blockAt f (f (79 + 8 * t + 0))))]) (rest := [.ref (a 0), .int (iZ ((stands f t) (71 + (blockAt f (f (79 + 8 * t + 0)))))), .int (iZ (71 + (blockAt f (f (79 + 8 * t + 0))))), .ref (a 1)]) ⟨mx, mb, mml, mo, mts⟩ hK zgw (c_X5_nextBlock l D y a (stands f t) sv ai tx sm ln th hh (blockAt f (f (79 + 8 * t + 0))) (by omega) (by omega)) (cwV 1 mts gX5_comes_X5_nextBlock rfl rfl rfl (by decide +kernel) ⟨Nat.le_of_ble_eq_true rfl, Nat.le_of_ble_eq_true rfl⟩) (fun _ h => h) 0 wM_0 rfl rfl rfl rfl (Nat.le_of_ble_eq_true rfl) ⟨Nat.zero_le _, Nat.zero_le _⟩ dX5_comes_29 ?_
    rw [show nextB (stands f t) (blockAt f (f (79 + 8 * t + 0))) = nextB f (blockAt f (f (79 + 8 * t + 0))) from by exact nextB_stands (by omega)]
    refine z_callP (As := [.int (iZ (nextB f (blockAt f (f (79 + 8 * t + 0)))))]) (rest := [.int (iZ ((stands f t) (71 + (blockAt f (f (79 + 8 * t + 0)))))), .int (iZ (71 + (blockAt f (f (79 + 8 * t + 0))))), .ref (a 1)]) ⟨mx, mb, mml, mo, mts⟩ hK zgw (c_X5_isFree l D y a (stands f t) sv ai tx sm ln th hh (nextB f (blockAt f (f (79 + 8 * t + 0)))) (by omega) j1) (cwV 1 mts gX5_comes_X5_isFree rfl rfl rfl (by decide +kernel) ⟨Nat.le_of_ble_eq_true rfl, Nat.le_of_ble_eq_true rfl⟩) (fun _ h => h) 0 wM_0 rfl rfl rfl rfl (Nat.le_of_ble_eq_true rfl) ⟨Nat.zero_le _, Nat.zero_le _⟩ dX5_comes_32 ?_
    refine z_if_eq (tgt := 42) mx mb (b2z_rng _) dX5_comes_35 (by decide) (fun c35 => ?_) (fun c35 => ?_)
    · skip
      refine z_iconst mx mb dX5_comes_42 ?_
      refine z_iadd mx mb dX5_comes_43 ?_
      refine z_iast mx mb hK 1 0 wM_1 rfl (by decide) (by omega) dX5_comes_44 (wM y a (zu (stands f t) (71 + (blockAt f (f (79 + 8 * t + 0)))) (((stands f t) (71 + (blockAt f (f (79 + 8 * t + 0))))) + 1)) sv ai tx sm ln th hh) wM_s1 ?_
      refine z_aload_n mx mb dX5_comes_45 rfl 1 rfl ?_
      refine z_iload_n mx mb dX5_comes_46 rfl 2 rfl ?_
      refine z_bipush mx mb dX5_comes_47 (by decide +kernel) ?_
      refine z_aload_n mx mb dX5_comes_49 rfl 1 rfl ?_
      refine z_iload_n mx mb dX5_comes_50 rfl 2 rfl ?_
      refine z_bipush mx mb dX5_comes_51 (by decide +kernel) ?_
      refine z_callP (As := [.int (iZ t), .int (iZ 7)]) (rest := [.int (iZ 7), .int (iZ t), .ref (a 0)]) ⟨mx, mb, mml, mo, mts⟩ hK zgw (c_X5_of l D y a (zu (stands f t) (71 + (blockAt f (f (79 + 8 * t + 0)))) (((stands f t) (71 + (blockAt f (f (79 + 8 * t + 0))))) + 1)) sv ai tx sm ln th hh t 7 (by omega)) (cwV 2 mts gX5_comes_X5_of rfl rfl rfl (by decide +kernel) ⟨Nat.le_of_ble_eq_true rfl, Nat.le_of_ble_eq_true rfl⟩) (fun _ h => h) 0 wM_0 rfl rfl rfl rfl (Nat.le_of_ble_eq_true rfl) ⟨Nat.zero_le _, Nat.zero_le _⟩ dX5_comes_53 ?_
      rw [show (zu (stands f t) (71 + (blockAt f (f (79 + 8 * t + 0)))) (((stands f t) (71 + (blockAt f (f (79 + 8 * t + 0))))) + 1)) (79 + 8 * t + 7) = f (79 + 8 * t + 7) from by rw [zu_n (by omega)]; unfold stands; rw [put_n (by omega), put_n (by omega), put_n (by omega), put_n (by omega)]]
      refine z_iload_n mx mb dX5_comes_56 rfl 0 rfl ?_
      refine z_if_ne (tgt := 64) mx mb (by omega) dX5_comes_57 (by decide) (fun c57 => ?_) (fun c57 => ?_)
      · skip
        refine z_iconst mx mb dX5_comes_64 ?_
        refine z_iadd mx mb dX5_comes_65 ?_
        refine z_callV0 (As := [.int (iZ t), .int (iZ 7), .int (iZ ((f (79 + 8 * t + 7)) + 0))]) (rest := []) ⟨mx, mb, mml, mo, mts⟩ hK hA (fun sz => c_X5_put l D sz y a (zu (stands f t) (71 + (blockAt f (f (79 + 8 * t + 0)))) (((stands f t) (71 + (blockAt f (f (79 + 8 * t + 0))))) + 1)) sv ai tx sm ln th hh t 7 ((f (79 + 8 * t + 7)) + 0) (by omega)) (cwV 3 mts gX5_comes_X5_put rfl rfl rfl (by decide +kernel) ⟨Nat.le_of_ble_eq_true rfl, Nat.le_of_ble_eq_true rfl⟩) 0 wM_0 rfl rfl rfl rfl (Nat.le_of_ble_eq_true rfl) ⟨Nat.zero_le _, Nat.zero_le _⟩ dX5_comes_66 (fun u66 hu66 => ?_)
        show Gz pp l ee ({ frames := 3, cells := 0, slots := 0, locals := 70 } : Room) ss mm args below meth cd 3 0 0 Q (Zw D vwCl (va_A wst sz) ss (wM y a (put (zu (stands f t) (71 + (blockAt f (f (79 + 8 * t + 0)))) (((stands f t) (71 + (blockAt f (f (79 + 8 * t + 0))))) + 1)) t 7 ((f (79 + 8 * t + 7)) + 0)) sv ai tx sm ln th hh)) 69 [(2, .int (iZ (blockAt f (f (79 + 8 * t + 0))))), (0, .ref (a 0)), (1, .int (iZ t))] []
        rw [hQ]
        exact z_retV mx mb mr mlk hK () (by trivial) (by unfold comes; rw [if_neg (b2z_e c35), if_neg c57]) dX5_comes_69
      · skip
        refine z_iconst mx mb dX5_comes_60 ?_
        refine z_goto (tgt := 65) mx mb dX5_comes_61 (by decide) ?_
        refine z_iadd mx mb dX5_comes_65 ?_
        refine z_callV0 (As := [.int (iZ t), .int (iZ 7), .int (iZ ((f (79 + 8 * t + 7)) + 1))]) (rest := []) ⟨mx, mb, mml, mo, mts⟩ hK hA (fun sz => c_X5_put l D sz y a (zu (stands f t) (71 + (blockAt f (f (79 + 8 * t + 0)))) (((stands f t) (71 + (blockAt f (f (79 + 8 * t + 0))))) + 1)) sv ai tx sm ln th hh t 7 ((f (79 + 8 * t + 7)) + 1) (by omega)) (cwV 3 mts gX5_comes_X5_put rfl rfl rfl (by decide +kernel) ⟨Nat.le_of_ble_eq_true rfl, Nat.le_of_ble_eq_true rfl⟩) 0 wM_0 rfl rfl rfl rfl (Nat.le_of_ble_eq_true rfl) ⟨Nat.zero_le _, Nat.zero_le _⟩ dX5_comes_66 (fun u66 hu66 => ?_)
        show Gz pp l ee ({ frames := 3, cells := 0, slots := 0, locals := 70 } : Room) ss mm args below meth cd 3 0 0 Q (Zw D vwCl (va_A wst sz) ss (wM y a (put (zu (stands f t) (71 + (blockAt f (f (79 + 8 * t + 0)))) (((stands f t) (71 + (blockAt f (f (79 + 8 * t + 0))))) + 1)) t 7 ((f (79 + 8 * t + 7)) + 1)) sv ai tx sm ln th hh)) 69 [(2, .int (iZ (blockAt f (f (79 + 8 * t + 0))))), (0, .ref (a 0)), (1, .int (iZ t))] []
        rw [hQ]
        exact z_retV mx mb mr mlk hK () (by trivial) (by unfold comes; rw [if_neg (b2z_e c35), if_pos c57]) dX5_comes_69
    · skip
      refine z_iconst mx mb dX5_comes_38 ?_
      refine z_goto (tgt := 43) mx mb dX5_comes_39 (by decide) ?_
      refine z_iadd mx mb dX5_comes_43 ?_
      refine z_iast mx mb hK 1 0 wM_1 rfl (by decide) (by omega) dX5_comes_44 (wM y a (zu (stands f t) (71 + (blockAt f (f (79 + 8 * t + 0)))) (((stands f t) (71 + (blockAt f (f (79 + 8 * t + 0))))) + 0)) sv ai tx sm ln th hh) wM_s1 ?_
      refine z_aload_n mx mb dX5_comes_45 rfl 1 rfl ?_
      refine z_iload_n mx mb dX5_comes_46 rfl 2 rfl ?_
      refine z_bipush mx mb dX5_comes_47 (by decide +kernel) ?_
      refine z_aload_n mx mb dX5_comes_49 rfl 1 rfl ?_
      refine z_iload_n mx mb dX5_comes_50 rfl 2 rfl ?_
      refine z_bipush mx mb dX5_comes_51 (by decide +kernel) ?_
      refine z_callP (As := [.int (iZ t), .int (iZ 7)]) (rest := [.int (iZ 7), .int (iZ t), .ref (a 0)]) ⟨mx, mb, mml, mo, mts⟩ hK zgw (c_X5_of l D y a (zu (stands f t) (71 + (blockAt f (f (79 + 8 * t + 0)))) (((stands f t) (71 + (blockAt f (f (79 + 8 * t + 0))))) + 0)) sv ai tx sm ln th hh t 7 (by omega)) (cwV 2 mts gX5_comes_X5_of rfl rfl rfl (by decide +kernel) ⟨Nat.le_of_ble_eq_true rfl, Nat.le_of_ble_eq_true rfl⟩) (fun _ h => h) 0 wM_0 rfl rfl rfl rfl (Nat.le_of_ble_eq_true rfl) ⟨Nat.zero_le _, Nat.zero_le _⟩ dX5_comes_53 ?_
      rw [show (zu (stands f t) (71 + (blockAt f (f (79 + 8 * t + 0)))) (((stands f t) (71 + (blockAt f (f (79 + 8 * t + 0))))) + 0)) (79 + 8 * t + 7) = f (79 + 8 * t + 7) from by rw [zu_n (by omega)]; unfold stands; rw [put_n (by omega), put_n (by omega), put_n (by omega), put_n (by omega)]]
      refine z_iload_n mx mb dX5_comes_56 rfl 0 rfl ?_
      refine z_if_ne (tgt := 64) mx mb (by omega) dX5_comes_57 (by decide) (fun c57 => ?_) (fun c57 => ?_)
      · skip
        refine z_iconst mx mb dX5_comes_64 ?_
        refine z_iadd mx mb dX5_comes_65 ?_
        refine z_callV0 (As := [.int (iZ t), .int (iZ 7), .int (iZ ((f (79 + 8 * t + 7)) + 0))]) (rest := []) ⟨mx, mb, mml, mo, mts⟩ hK hA (fun sz => c_X5_put l D sz y a (zu (stands f t) (71 + (blockAt f (f (79 + 8 * t + 0)))) (((stands f t) (71 + (blockAt f (f (79 + 8 * t + 0))))) + 0)) sv ai tx sm ln th hh t 7 ((f (79 + 8 * t + 7)) + 0) (by omega)) (cwV 3 mts gX5_comes_X5_put rfl rfl rfl (by decide +kernel) ⟨Nat.le_of_ble_eq_true rfl, Nat.le_of_ble_eq_true rfl⟩) 0 wM_0 rfl rfl rfl rfl (Nat.le_of_ble_eq_true rfl) ⟨Nat.zero_le _, Nat.zero_le _⟩ dX5_comes_66 (fun u66 hu66 => ?_)
        show Gz pp l ee ({ frames := 3, cells := 0, slots := 0, locals := 70 } : Room) ss mm args below meth cd 3 0 0 Q (Zw D vwCl (va_A wst sz) ss (wM y a (put (zu (stands f t) (71 + (blockAt f (f (79 + 8 * t + 0)))) (((stands f t) (71 + (blockAt f (f (79 + 8 * t + 0))))) + 0)) t 7 ((f (79 + 8 * t + 7)) + 0)) sv ai tx sm ln th hh)) 69 [(2, .int (iZ (blockAt f (f (79 + 8 * t + 0))))), (0, .ref (a 0)), (1, .int (iZ t))] []
        rw [hQ]
        exact z_retV mx mb mr mlk hK () (by trivial) (by unfold comes; rw [if_pos (b2z_ne c35), if_neg c57]) dX5_comes_69
      · skip
        refine z_iconst mx mb dX5_comes_60 ?_
        refine z_goto (tgt := 65) mx mb dX5_comes_61 (by decide) ?_
        refine z_iadd mx mb dX5_comes_65 ?_
        refine z_callV0 (As := [.int (iZ t), .int (iZ 7), .int (iZ ((f (79 + 8 * t + 7)) + 1))]) (rest := []) ⟨mx, mb, mml, mo, mts⟩ hK hA (fun sz => c_X5_put l D sz y a (zu (stands f t) (71 + (blockAt f (f (79 + 8 * t + 0)))) (((stands f t) (71 + (blockAt f (f (79 + 8 * t + 0))))) + 0)) sv ai tx sm ln th hh t 7 ((f (79 + 8 * t + 7)) + 1) (by omega)) (cwV 3 mts gX5_comes_X5_put rfl rfl rfl (by decide +kernel) ⟨Nat.le_of_ble_eq_true rfl, Nat.le_of_ble_eq_true rfl⟩) 0 wM_0 rfl rfl rfl rfl (Nat.le_of_ble_eq_true rfl) ⟨Nat.zero_le _, Nat.zero_le _⟩ dX5_comes_66 (fun u66 hu66 => ?_)
        show Gz pp l ee ({ frames := 3, cells := 0, slots := 0, locals := 70 } : Room) ss mm args below meth cd 3 0 0 Q (Zw D vwCl (va_A wst sz) ss (wM y a (put (zu (stands f t) (71 + (blockAt f (f (79 + 8 * t + 0)))) (((stands f t) (71 + (blockAt f (f (79 + 8 * t + 0))))) + 0)) t 7 ((f (79 + 8 * t + 7)) + 1)) sv ai tx sm ln th hh)) 69 [(2, .int (iZ (blockAt f (f (79 + 8 * t + 0))))), (0, .ref (a 0)), (1, .int (iZ t))] []
        rw [hQ]
        exact z_retV mx mb mr mlk hK () (by trivial) (by unfold comes; rw [if_pos (b2z_ne c35), if_pos c57]) dX5_comes_69
  subst hQ
  subst hw0
  exact hstart

theorem in_X5_moves_X5 : ∀ w ∈ wsX50, w ∈ wsX5_moves := by decide +kernel
set_option maxRecDepth 100000 in
set_option maxHeartbeats 4000000 in
theorem c_X5_moves (l : Launch) (D : va_G) (sz : Nat) (y : Nat → ClassId) (a : Nat → Nat) (f sv ai tx : Int → Int) (sm ln th hh : Int) (t : Int) (ht : 0 ≤ t ∧ t < 4) (hJ : Jx f) : Met l yX5_moves wsX5_moves ({ frames := 4, cells := 0, slots := 0, locals := 92 } : Room) (zPw D vwCl (zT y) (wM y a f sv ai tx sm ln th hh) sz [.ref (a 0), .int (iZ t)]) (va_Qv (fun _ : Unit => True) (zB D vwCl (zT y) (wM y a f sv ai tx sm ln th hh) sz (fun _ : Unit => wM y a (moves f t) sv ai tx sm ln th hh)) (va_A (wM y a f sv ai tx sm ln th hh) sz)) 0 0 (va_A (wM y a f sv ai tx sm ln th hh) sz) := by
  refine z_headW (cc := cX5_moves) (maxL := 5) (ret := none) [(0, .ref (a 0)), (1, .int (iZ t))] rfl (Nat.le_of_ble_eq_true rfl) (by decide +kernel) rfl ?_
  intro pp ee ss mm below meth cd mx mb mr mml mo mts mlk hK hname hsz hA
  generalize ([.ref (a 0), .int (iZ t)] : List Value).toArray = args at mts ⊢
  obtain ⟨wst, hw0⟩ : ∃ wst, wst = wM y a f sv ai tx sm ln th hh := ⟨_, rfl⟩
  have hA : ∀ q, ss.heap.size ≤ q → va_A wst sz q := by rw [hw0]; exact hA
  obtain ⟨Q, hQ⟩ : ∃ Q, Q = MQ below (va_Qv (fun _ : Unit => True) (zB D vwCl (zT y) wst sz (fun _ : Unit => wM y a (moves f t) sv ai tx sm ln th hh)) (va_A wst sz)) args ss 0 0 (va_A wst sz) := ⟨_, rfl⟩
  have hstart : Gz pp l ee ({ frames := 4, cells := 0, slots := 0, locals := 92 } : Room) ss mm args below meth cd 5 0 0 Q (Zw D vwCl (va_A wst sz) ss (wM y a f sv ai tx sm ln th hh)) 0 [(0, .ref (a 0)), (1, .int (iZ t))] [] := by
    obtain ⟨hW, hN, hT⟩ := hJ.f
    obtain ⟨w0, w1, w2, w3, w4, w5, w6⟩ := id hW
    obtain ⟨n3, n4, n5, n6, n7, n8, n9, n10⟩ := id hN
    have k0 := w6 t (by omega) (by omega)
    obtain ⟨q1, q2, q3, q5, q7⟩ := hT t (by omega) (by omega)
    have ka := after_rng hW k0.1
    have kd : 0 ≤ drag f t ∧ drag f t ≤ 1000 := by unfold drag; split <;> omega
    have ks := squareOn_up (sq := f (79 + 8 * t + 1)) (d := drag f t) hW (show 0 ≤ f (79 + 8 * t + 0) ∧ f (79 + 8 * t + 0) < 30 by omega) (show 0 ≤ after f (f (79 + 8 * t + 0)) ∧ after f (f (79 + 8 * t + 0)) < 30 by omega)
    have ks2 := ks.2 q1.1 (by omega)
    have kk := w4 (after f (f (79 + 8 * t + 0))) (by omega) (by omega)
    refine z_aload_n mx mb dX5_moves_0 rfl 0 rfl ?_
    refine z_iload_n mx mb dX5_moves_1 rfl 1 rfl ?_
    refine z_iconst mx mb dX5_moves_2 ?_
    refine z_callP (As := [.int (iZ t), .int (iZ 0)]) (rest := []) ⟨mx, mb, mml, mo, mts⟩ hK zgw (c_X5_of l D y a f sv ai tx sm ln th hh t 0 (by omega)) (cwV 2 mts gX5_moves_X5_of rfl rfl rfl (by decide +kernel) ⟨Nat.le_of_ble_eq_true rfl, Nat.le_of_ble_eq_true rfl⟩) (fun _ h => h) 0 wM_0 rfl rfl rfl rfl (Nat.le_of_ble_eq_true rfl) ⟨Nat.zero_le _, Nat.zero_le _⟩ dX5_moves_3 ?_
    refine z_istore_n mx mb dX5_moves_6 rfl (by decide) [(2, .int (iZ (f (79 + 8 * t + 0)))), (0, .ref (a 0)), (1, .int (iZ t))] rfl ?_
    refine z_aload_n mx mb dX5_moves_7 rfl 1 rfl ?_
    refine z_iload_n mx mb dX5_moves_8 rfl 0 rfl ?_
    refine z_callP (As := [.int (iZ (f (79 + 8 * t + 0)))]) (rest := []) ⟨mx, mb, mml, mo, mts⟩ hK zgw (c_X5_after l D y a f sv ai tx sm ln th hh (f (79 + 8 * t + 0)) (by omega) (by omega)) (cwV 1 mts gX5_moves_X5_after rfl rfl rfl (by decide +kernel) ⟨Nat.le_of_ble_eq_true rfl, Nat.le_of_ble_eq_true rfl⟩) (fun _ h => h) 0 wM_0 rfl rfl rfl rfl (Nat.le_of_ble_eq_true rfl) ⟨Nat.zero_le _, Nat.zero_le _⟩ dX5_moves_9 ?_
    refine z_istore_n mx mb dX5_moves_12 rfl (by decide) [(3, .int (iZ (after f (f (79 + 8 * t + 0))))), (2, .int (iZ (f (79 + 8 * t + 0)))), (0, .ref (a 0)), (1, .int (iZ t))] rfl ?_
    refine z_aload_n mx mb dX5_moves_13 rfl 2 rfl ?_
    refine z_iload_n mx mb dX5_moves_14 rfl 1 rfl ?_
    refine z_iload_n mx mb dX5_moves_15 rfl 0 rfl ?_
    refine z_aload_n mx mb dX5_moves_16 rfl 2 rfl ?_
    refine z_iload_n mx mb dX5_moves_17 rfl 3 rfl ?_
    refine z_iconst mx mb dX5_moves_18 ?_
    refine z_callP (As := [.int (iZ t), .int (iZ 1)]) (rest := [.int (iZ (after f (f (79 + 8 * t + 0)))), .int (iZ (f (79 + 8 * t + 0))), .ref (a 0)]) ⟨mx, mb, mml, mo, mts⟩ hK zgw (c_X5_of l D y a f sv ai tx sm ln th hh t 1 (by omega)) (cwV 2 mts gX5_moves_X5_of rfl rfl rfl (by decide +kernel) ⟨Nat.le_of_ble_eq_true rfl, Nat.le_of_ble_eq_true rfl⟩) (fun _ h => h) 0 wM_0 rfl rfl rfl rfl (Nat.le_of_ble_eq_true rfl) ⟨Nat.zero_le _, Nat.zero_le _⟩ dX5_moves_19 ?_
    refine z_aload_n mx mb dX5_moves_22 rfl 2 rfl ?_
    refine z_iload_n mx mb dX5_moves_23 rfl 3 rfl ?_
    refine z_callP (As := [.int (iZ t)]) (rest := [.int (iZ (f (79 + 8 * t + 1))), .int (iZ (after f (f (79 + 8 * t + 0)))), .int (iZ (f (79 + 8 * t + 0))), .ref (a 0)]) ⟨mx, mb, mml, mo, mts⟩ hK zgw (c_X5_drag l D y a f sv ai tx sm ln th hh t (by omega) (by omega)) (cwV 1 mts gX5_moves_X5_drag rfl rfl rfl (by decide +kernel) ⟨Nat.le_of_ble_eq_true rfl, Nat.le_of_ble_eq_true rfl⟩) (fun _ h => h) 0 wM_0 rfl rfl rfl rfl (Nat.le_of_ble_eq_true rfl) ⟨Nat.zero_le _, Nat.zero_le _⟩ dX5_moves_24 ?_
    refine z_callP (As := [.int (iZ (f (79 + 8 * t + 0))), .int (iZ (after f (f (79 + 8 * t + 0)))), .int (iZ (f (79 + 8 * t + 1))), .int (iZ (drag f t))]) (rest := []) ⟨mx, mb, mml, mo, mts⟩ hK zgw (c_X5_squareOn l D y a f sv ai tx sm ln th hh (f (79 + 8 * t + 0)) (after f (f (79 + 8 * t + 0))) (f (79 + 8 * t + 1)) (drag f t) (by omega) (by omega) (by omega) (by omega) (by assumption)) (cwV 4 mts gX5_moves_X5_squareOn rfl rfl rfl (by decide +kernel) ⟨Nat.le_of_ble_eq_true rfl, Nat.le_of_ble_eq_true rfl⟩) (fun _ h => h) 0 wM_0 rfl rfl rfl rfl (Nat.le_of_ble_eq_true rfl) ⟨Nat.zero_le _, Nat.zero_le _⟩ dX5_moves_27 ?_
    refine z_istore mx mb dX5_moves_30 (by decide) [(4, .int (iZ (squareOn f (f (79 + 8 * t + 0)) (after f (f (79 + 8 * t + 0))) (f (79 + 8 * t + 1)) (drag f t)))), (3, .int (iZ (after f (f (79 + 8 * t + 0))))), (2, .int (iZ (f (79 + 8 * t + 0)))), (0, .ref (a 0)), (1, .int (iZ t))] rfl ?_
    refine z_iload mx mb dX5_moves_32 0 rfl ?_
    refine z_if_ge (tgt := 43) mx mb (by omega) dX5_moves_34 (by decide) (fun c34 => ?_) (fun c34 => ?_)
    · skip
      have jc := hJ.came (t := t) (sq := (squareOn f (f (79 + 8 * t + 0)) (after f (f (79 + 8 * t + 0))) (f (79 + 8 * t + 1)) (drag f t))) (by omega) (by omega)
      refine z_aload_n mx mb dX5_moves_43 rfl 3 rfl ?_
      refine z_iload_n mx mb dX5_moves_44 rfl 4 rfl ?_
      refine z_iconst mx mb dX5_moves_45 ?_
      refine z_iload_n mx mb dX5_moves_46 rfl 1 rfl ?_
      refine z_callV0 (As := [.int (iZ t), .int (iZ 0), .int (iZ (after f (f (79 + 8 * t + 0))))]) (rest := []) ⟨mx, mb, mml, mo, mts⟩ hK hA (fun sz => c_X5_put l D sz y a f sv ai tx sm ln th hh t 0 (after f (f (79 + 8 * t + 0))) (by omega)) (cwV 3 mts gX5_moves_X5_put rfl rfl rfl (by decide +kernel) ⟨Nat.le_of_ble_eq_true rfl, Nat.le_of_ble_eq_true rfl⟩) 0 wM_0 rfl rfl rfl rfl (Nat.le_of_ble_eq_true rfl) ⟨Nat.zero_le _, Nat.zero_le _⟩ dX5_moves_47 (fun u47 hu47 => ?_)
      show Gz pp l ee ({ frames := 4, cells := 0, slots := 0, locals := 92 } : Room) ss mm args below meth cd 5 0 0 Q (Zw D vwCl (va_A wst sz) ss (wM y a (put f t 0 (after f (f (79 + 8 * t + 0)))) sv ai tx sm ln th hh)) 50 [(4, .int (iZ (squareOn f (f (79 + 8 * t + 0)) (after f (f (79 + 8 * t + 0))) (f (79 + 8 * t + 1)) (drag f t)))), (3, .int (iZ (after f (f (79 + 8 * t + 0))))), (2, .int (iZ (f (79 + 8 * t + 0)))), (0, .ref (a 0)), (1, .int (iZ t))] []
      refine z_aload_n mx mb dX5_moves_50 rfl 3 rfl ?_
      refine z_iload_n mx mb dX5_moves_51 rfl 4 rfl ?_
      refine z_bipush mx mb dX5_moves_52 (by decide +kernel) ?_
      refine z_aload_n mx mb dX5_moves_54 rfl 3 rfl ?_
      refine z_iload_n mx mb dX5_moves_55 rfl 4 rfl ?_
      refine z_bipush mx mb dX5_moves_56 (by decide +kernel) ?_
      refine z_callP (As := [.int (iZ t), .int (iZ 6)]) (rest := [.int (iZ 6), .int (iZ t), .ref (a 0)]) ⟨mx, mb, mml, mo, mts⟩ hK zgw (c_X5_of l D y a (put f t 0 (after f (f (79 + 8 * t + 0)))) sv ai tx sm ln th hh t 6 (by omega)) (cwV 2 mts gX5_moves_X5_of rfl rfl rfl (by decide +kernel) ⟨Nat.le_of_ble_eq_true rfl, Nat.le_of_ble_eq_true rfl⟩) (fun _ h => h) 0 wM_0 rfl rfl rfl rfl (Nat.le_of_ble_eq_true rfl) ⟨Nat.zero_le _, Nat.zero_le _⟩ dX5_moves_58 ?_
      rw [show (put f t 0 (after f (f (79 + 8 * t + 0)))) (79 + 8 * t + 6) = f (79 + 8 * t + 6) from by exact put_n (by omega)]
      refine z_iconst mx mb dX5_moves_61 ?_
      refine z_iadd mx mb dX5_moves_62 ?_
      refine z_callV0 (As := [.int (iZ t), .int (iZ 6), .int (iZ ((f (79 + 8 * t + 6)) + 1))]) (rest := []) ⟨mx, mb, mml, mo, mts⟩ hK hA (fun sz => c_X5_put l D sz y a (put f t 0 (after f (f (79 + 8 * t + 0)))) sv ai tx sm ln th hh t 6 ((f (79 + 8 * t + 6)) + 1) (by omega)) (cwV 3 mts gX5_moves_X5_put rfl rfl rfl (by decide +kernel) ⟨Nat.le_of_ble_eq_true rfl, Nat.le_of_ble_eq_true rfl⟩) 0 wM_0 rfl rfl rfl rfl (Nat.le_of_ble_eq_true rfl) ⟨Nat.zero_le _, Nat.zero_le _⟩ dX5_moves_63 (fun u63 hu63 => ?_)
      show Gz pp l ee ({ frames := 4, cells := 0, slots := 0, locals := 92 } : Room) ss mm args below meth cd 5 0 0 Q (Zw D vwCl (va_A wst sz) ss (wM y a (put (put f t 0 (after f (f (79 + 8 * t + 0)))) t 6 ((f (79 + 8 * t + 6)) + 1)) sv ai tx sm ln th hh)) 66 [(4, .int (iZ (squareOn f (f (79 + 8 * t + 0)) (after f (f (79 + 8 * t + 0))) (f (79 + 8 * t + 1)) (drag f t)))), (3, .int (iZ (after f (f (79 + 8 * t + 0))))), (2, .int (iZ (f (79 + 8 * t + 0)))), (0, .ref (a 0)), (1, .int (iZ t))] []
      refine z_aload_n mx mb dX5_moves_66 rfl 3 rfl ?_
      refine z_iload_n mx mb dX5_moves_67 rfl 4 rfl ?_
      refine z_iconst mx mb dX5_moves_68 ?_
      refine z_iload mx mb dX5_moves_69 0 rfl ?_
      refine z_callV0 (As := [.int (iZ t), .int (iZ 1), .int (iZ (squareOn f (f (79 + 8 * t + 0)) (after f (f (79 + 8 * t + 0))) (f (79 + 8 * t + 1)) (drag f t)))]) (rest := []) ⟨mx, mb, mml, mo, mts⟩ hK hA (fun sz => c_X5_put l D sz y a (put (put f t 0 (after f (f (79 + 8 * t + 0)))) t 6 ((f (79 + 8 * t + 6)) + 1)) sv ai tx sm ln th hh t 1 (squareOn f (f (79 + 8 * t + 0)) (after f (f (79 + 8 * t + 0))) (f (79 + 8 * t + 1)) (drag f t)) (by omega)) (cwV 3 mts gX5_moves_X5_put rfl rfl rfl (by decide +kernel) ⟨Nat.le_of_ble_eq_true rfl, Nat.le_of_ble_eq_true rfl⟩) 0 wM_0 rfl rfl rfl rfl (Nat.le_of_ble_eq_true rfl) ⟨Nat.zero_le _, Nat.zero_le _⟩ dX5_moves_71 (fun u71 hu71 => ?_)
      show Gz pp l ee ({ frames := 4, cells := 0, slots := 0, locals := 92 } : Room) ss mm args below meth cd 5 0 0 Q (Zw D vwCl (va_A wst sz) ss (wM y a (put (put (put f t 0 (after f (f (79 + 8 * t + 0)))) t 6 ((f (79 + 8 * t + 6)) + 1)) t 1 (squareOn f (f (79 + 8 * t + 0)) (after f (f (79 + 8 * t + 0))) (f (79 + 8 * t + 1)) (drag f t))) sv ai tx sm ln th hh)) 74 [(4, .int (iZ (squareOn f (f (79 + 8 * t + 0)) (after f (f (79 + 8 * t + 0))) (f (79 + 8 * t + 1)) (drag f t)))), (3, .int (iZ (after f (f (79 + 8 * t + 0))))), (2, .int (iZ (f (79 + 8 * t + 0)))), (0, .ref (a 0)), (1, .int (iZ t))] []
      refine z_aload_n mx mb dX5_moves_74 rfl 3 rfl ?_
      refine z_get (C := RX5) (T := TX5) (N := 8) mx mb mts (in_X5_moves_X5) mo hK zgw 0 wM_0 rfl 0 (by decide) (mts _ (List.mem_of_getElem? (i := 1) rfl)) (fun _ h9 => h9) rfl dX5_moves_75 ?_
      refine z_bipush mx mb dX5_moves_78 (by decide +kernel) ?_
      refine z_iload_n mx mb dX5_moves_80 rfl 1 rfl ?_
      refine z_iadd mx mb dX5_moves_81 ?_
      refine z_iald mx mb hK zgw 1 0 wM_1 rfl (by decide) (by omega) dX5_moves_82 ?_
      rw [show (put (put (put f t 0 (after f (f (79 + 8 * t + 0)))) t 6 ((f (79 + 8 * t + 6)) + 1)) t 1 (squareOn f (f (79 + 8 * t + 0)) (after f (f (79 + 8 * t + 0))) (f (79 + 8 * t + 1)) (drag f t))) (41 + (after f (f (79 + 8 * t + 0)))) = f (41 + after f (f (79 + 8 * t + 0))) from by exact came_2 (by omega) (by omega)]
      refine z_iconst mx mb dX5_moves_83 ?_
      refine z_icmp_ne (tgt := 95) mx mb (by omega) (by omega) dX5_moves_84 (by decide) (fun c84 => ?_) (fun c84 => ?_)
      · skip
        refine z_iload mx mb dX5_moves_95 0 rfl ?_
        refine z_if_ne (tgt := 118) mx mb (by omega) dX5_moves_97 (by decide) (fun c97 => ?_) (fun c97 => ?_)
        · skip
          rw [hQ]
          exact z_retV mx mb mr mlk hK () (by trivial) (by rw [moves, if_neg (by omega), if_neg c84, if_neg (fun q => c97 q.1)]; rfl) dX5_moves_118
        · skip
          refine z_aload_n mx mb dX5_moves_100 rfl 3 rfl ?_
          refine z_get (C := RX5) (T := TX5) (N := 8) mx mb mts (in_X5_moves_X5) mo hK zgw 0 wM_0 rfl 0 (by decide) (mts _ (List.mem_of_getElem? (i := 1) rfl)) (fun _ h9 => h9) rfl dX5_moves_101 ?_
          refine z_bipush mx mb dX5_moves_104 (by decide +kernel) ?_
          refine z_iload_n mx mb dX5_moves_106 rfl 1 rfl ?_
          refine z_iadd mx mb dX5_moves_107 ?_
          refine z_iald mx mb hK zgw 1 0 wM_1 rfl (by decide) (by omega) dX5_moves_108 ?_
          rw [show (put (put (put f t 0 (after f (f (79 + 8 * t + 0)))) t 6 ((f (79 + 8 * t + 6)) + 1)) t 1 (squareOn f (f (79 + 8 * t + 0)) (after f (f (79 + 8 * t + 0))) (f (79 + 8 * t + 1)) (drag f t))) (41 + (after f (f (79 + 8 * t + 0)))) = f (41 + after f (f (79 + 8 * t + 0))) from by exact came_2 (by omega) (by omega)]
          refine z_iconst mx mb dX5_moves_109 ?_
          refine z_icmp_eq (tgt := 118) mx mb (by omega) (by omega) dX5_moves_110 (by decide) (fun c110 => ?_) (fun c110 => ?_)
          · skip
            rw [hQ]
            exact z_retV mx mb mr mlk hK () (by trivial) (by rw [moves, if_neg (by omega), if_neg c84, if_neg (fun q => q.2 c110)]; rfl) dX5_moves_118
          · skip
            refine z_aload_n mx mb dX5_moves_113 rfl 3 rfl ?_
            refine z_iload_n mx mb dX5_moves_114 rfl 4 rfl ?_
            refine z_callV0 (As := [.int (iZ t)]) (rest := []) ⟨mx, mb, mml, mo, mts⟩ hK hA (fun sz => c_X5_lies l D sz y a (put (put (put f t 0 (after f (f (79 + 8 * t + 0)))) t 6 ((f (79 + 8 * t + 6)) + 1)) t 1 (squareOn f (f (79 + 8 * t + 0)) (after f (f (79 + 8 * t + 0))) (f (79 + 8 * t + 1)) (drag f t))) sv ai tx sm ln th hh t (by omega)) (cwV 1 mts gX5_moves_X5_lies rfl rfl rfl (by decide +kernel) ⟨Nat.le_of_ble_eq_true rfl, Nat.le_of_ble_eq_true rfl⟩) 0 wM_0 rfl rfl rfl rfl (Nat.le_of_ble_eq_true rfl) ⟨Nat.zero_le _, Nat.zero_le _⟩ dX5_moves_115 (fun u115 hu115 => ?_)
            show Gz pp l ee ({ frames := 4, cells := 0, slots := 0, locals := 92 } : Room) ss mm args below meth cd 5 0 0 Q (Zw D vwCl (va_A wst sz) ss (wM y a (lies (put (put (put f t 0 (after f (f (79 + 8 * t + 0)))) t 6 ((f (79 + 8 * t + 6)) + 1)) t 1 (squareOn f (f (79 + 8 * t + 0)) (after f (f (79 + 8 * t + 0))) (f (79 + 8 * t + 1)) (drag f t))) t) sv ai tx sm ln th hh)) 118 [(4, .int (iZ (squareOn f (f (79 + 8 * t + 0)) (after f (f (79 + 8 * t + 0))) (f (79 + 8 * t + 1)) (drag f t)))), (3, .int (iZ (after f (f (79 + 8 * t + 0))))), (2, .int (iZ (f (79 + 8 * t + 0)))), (0, .ref (a 0)), (1, .int (iZ t))] []
            rw [hQ]
            exact z_retV mx mb mr mlk hK () (by trivial) (by rw [moves, if_neg (by omega), if_neg c84, if_pos ⟨c97, c110⟩]; rfl) dX5_moves_118
      · skip
        refine z_aload_n mx mb dX5_moves_87 rfl 3 rfl ?_
        refine z_iload_n mx mb dX5_moves_88 rfl 4 rfl ?_
        refine z_callV0 (As := [.int (iZ t)]) (rest := []) ⟨mx, mb, mml, mo, mts⟩ hK hA (fun sz => c_X5_comes l D sz y a (put (put (put f t 0 (after f (f (79 + 8 * t + 0)))) t 6 ((f (79 + 8 * t + 6)) + 1)) t 1 (squareOn f (f (79 + 8 * t + 0)) (after f (f (79 + 8 * t + 0))) (f (79 + 8 * t + 1)) (drag f t))) sv ai tx sm ln th hh t (by omega) jc) (cwV 1 mts gX5_moves_X5_comes rfl rfl rfl (by decide +kernel) ⟨Nat.le_of_ble_eq_true rfl, Nat.le_of_ble_eq_true rfl⟩) 0 wM_0 rfl rfl rfl rfl (Nat.le_of_ble_eq_true rfl) ⟨Nat.zero_le _, Nat.zero_le _⟩ dX5_moves_89 (fun u89 hu89 => ?_)
        show Gz pp l ee ({ frames := 4, cells := 0, slots := 0, locals := 92 } : Room) ss mm args below meth cd 5 0 0 Q (Zw D vwCl (va_A wst sz) ss (wM y a (comes (put (put (put f t 0 (after f (f (79 + 8 * t + 0)))) t 6 ((f (79 + 8 * t + 6)) + 1)) t 1 (squareOn f (f (79 + 8 * t + 0)) (after f (f (79 + 8 * t + 0))) (f (79 + 8 * t + 1)) (drag f t))) t) sv ai tx sm ln th hh)) 92 [(4, .int (iZ (squareOn f (f (79 + 8 * t + 0)) (after f (f (79 + 8 * t + 0))) (f (79 + 8 * t + 1)) (drag f t)))), (3, .int (iZ (after f (f (79 + 8 * t + 0))))), (2, .int (iZ (f (79 + 8 * t + 0)))), (0, .ref (a 0)), (1, .int (iZ t))] []
        refine z_goto (tgt := 118) mx mb dX5_moves_92 (by decide) ?_
        rw [hQ]
        exact z_retV mx mb mr mlk hK () (by trivial) (by rw [moves, if_neg (by omega), if_pos c84]; rfl) dX5_moves_118
    · skip
      refine z_aload_n mx mb dX5_moves_37 rfl 3 rfl ?_
      refine z_iload_n mx mb dX5_moves_38 rfl 4 rfl ?_
      refine z_callV0 (As := [.int (iZ t)]) (rest := []) ⟨mx, mb, mml, mo, mts⟩ hK hA (fun sz => c_X5_lies l D sz y a f sv ai tx sm ln th hh t (by omega)) (cwV 1 mts gX5_moves_X5_lies rfl rfl rfl (by decide +kernel) ⟨Nat.le_of_ble_eq_true rfl, Nat.le_of_ble_eq_true rfl⟩) 0 wM_0 rfl rfl rfl rfl (Nat.le_of_ble_eq_true rfl) ⟨Nat.zero_le _, Nat.zero_le _⟩ dX5_moves_39 (fun u39 hu39 => ?_)
      show Gz pp l ee ({ frames := 4, cells := 0, slots := 0, locals := 92 } : Room) ss mm args below meth cd 5 0 0 Q (Zw D vwCl (va_A wst sz) ss (wM y a (lies f t) sv ai tx sm ln th hh)) 42 [(4, .int (iZ (squareOn f (f (79 + 8 * t + 0)) (after f (f (79 + 8 * t + 0))) (f (79 + 8 * t + 1)) (drag f t)))), (3, .int (iZ (after f (f (79 + 8 * t + 0))))), (2, .int (iZ (f (79 + 8 * t + 0)))), (0, .ref (a 0)), (1, .int (iZ t))] []
      rw [hQ]
      exact z_retV mx mb mr mlk hK () (by trivial) (by rw [moves, if_pos c34]) dX5_moves_42
  subst hQ
  subst hw0
  exact hstart
