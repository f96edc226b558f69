theorem in_X3_copyFrom_X3 : ∀ w ∈ wsX30, w ∈ wsX3_copyFrom := by decide +kernel
set_option maxRecDepth 100000 in
set_option maxHeartbeats 4000000 in
theorem c_X3_copyFrom (l : Launch) (D : va_G) (sz : Nat) (y : Nat → ClassId) (a : Nat → Nat) (R : Nat → Int → Int) (b : Nat → Nat) (S : Nat → Int → Int) (t : Nat) (ht : t < 4) : Met l yX3_copyFrom wsX3_copyFrom ({ frames := 0, cells := 0, slots := 0, locals := 0 } : Room) (zPw D vwCl (zT y) (wRR y a R b S) sz [.ref (a (8 + t)), .ref (b (8 + t))]) (va_Qv (fun R' : Nat → Int → Int => R' = uc R (8 + t) (R' (8 + t)) ∧ ∀ k : Int, 0 ≤ k → k < 8 → R' (8 + t) k = S (8 + t) k) (zB D vwCl (zT y) (wRR y a R b S) sz (fun R' : Nat → Int → Int => wRR y a R' b S)) (va_A (wRR y a R b S) sz)) 0 0 (va_A (wRR y a R b S) sz) := by
  refine z_headW (cc := cX3_copyFrom) (maxL := 2) (ret := none) [(0, .ref (a (8 + t))), (1, .ref (b (8 + t)))] rfl (Nat.le_of_ble_eq_true rfl) (by decide +kernel) rfl ?_
  intro pp ee ss mm below meth cd mx mb mr mml mo mts mlk hK hname hsz hA
  generalize ([.ref (a (8 + t)), .ref (b (8 + t))] : List Value).toArray = args at mts ⊢
  obtain ⟨wst, hw0⟩ : ∃ wst, wst = wRR y a R b S := ⟨_, rfl⟩
  have hA : ∀ q, ss.heap.size ≤ q → va_A wst sz q := by rw [hw0]; exact hA
  obtain ⟨Q, hQ⟩ : ∃ Q, Q = MQ below (va_Qv (fun R' : Nat → Int → Int => R' = uc R (8 + t) (R' (8 + t)) ∧ ∀ k : Int, 0 ≤ k → k < 8 → R' (8 + t) k = S (8 + t) k) (zB D vwCl (zT y) wst sz (fun R' : Nat → Int → Int => wRR y a R' b S)) (va_A wst sz)) args ss 0 0 (va_A wst sz) := ⟨_, rfl⟩
  have hstart : Gz pp l ee ({ frames := 0, cells := 0, slots := 0, locals := 0 } : Room) ss mm args below meth cd 2 0 0 Q (Zw D vwCl (va_A wst sz) ss (wRR y a R b S)) 0 [(0, .ref (a (8 + t))), (1, .ref (b (8 + t)))] [] := by
    refine z_aload_n mx mb dX3_copyFrom_0 rfl 0 rfl ?_
    refine z_aload_n mx mb dX3_copyFrom_1 rfl 1 rfl ?_
    refine z_get (C := RX3) (T := TX3) (N := 8) mx mb mts (in_X3_copyFrom_X3) mo hK zgw (15 + (8 + t)) (wRR_bt (by omega)) rfl 0 (by decide) (mts _ (List.mem_of_getElem? (i := 1) rfl)) (fun _ h9 => h9) rfl dX3_copyFrom_2 ?_
    refine z_put (ty := .int) (C := RX3) (T := TX3) (N := 8) mx mb mts (in_X3_copyFrom_X3) tyX3_ok nmX3 mo hK (8 + t) (wRR_t (by omega)) rfl 0 (by decide) (mts _ (List.mem_of_getElem? (i := 1) rfl)) (fun _ h9 => h9) rfl (by decide +kernel) rfl rfl (Nat.le_of_ble_eq_true rfl) dX3_copyFrom_5 (wRR y a (uc R (8 + t) (zu (R (8 + t)) 0 (S (8 + t) 0))) b S) (wRR_stk (by omega) 0 (by decide)) ?_
    refine z_aload_n mx mb dX3_copyFrom_8 rfl 0 rfl ?_
    refine z_aload_n mx mb dX3_copyFrom_9 rfl 1 rfl ?_
    refine z_get (C := RX3) (T := TX3) (N := 8) mx mb mts (in_X3_copyFrom_X3) mo hK zgw (15 + (8 + t)) (wRR_bt (by omega)) rfl 1 (by decide) (mts _ (List.mem_of_getElem? (i := 2) rfl)) (fun _ h9 => h9) rfl dX3_copyFrom_10 ?_
    refine z_put (ty := .int) (C := RX3) (T := TX3) (N := 8) mx mb mts (in_X3_copyFrom_X3) tyX3_ok nmX3 mo hK (8 + t) (wRR_t (by omega)) rfl 1 (by decide) (mts _ (List.mem_of_getElem? (i := 2) rfl)) (fun _ h9 => h9) rfl (by decide +kernel) rfl rfl (Nat.le_of_ble_eq_true rfl) dX3_copyFrom_13 (wRR y a (uc R (8 + t) (zu (zu (R (8 + t)) 0 (S (8 + t) 0)) 1 (S (8 + t) 1))) b S) (wRR_stk2 (by omega) 1 (by decide)) ?_
    refine z_aload_n mx mb dX3_copyFrom_16 rfl 0 rfl ?_
    refine z_aload_n mx mb dX3_copyFrom_17 rfl 1 rfl ?_
    refine z_get (C := RX3) (T := TX3) (N := 8) mx mb mts (in_X3_copyFrom_X3) mo hK zgw (15 + (8 + t)) (wRR_bt (by omega)) rfl 2 (by decide) (mts _ (List.mem_of_getElem? (i := 3) rfl)) (fun _ h9 => h9) rfl dX3_copyFrom_18 ?_
    refine z_put (ty := .int) (C := RX3) (T := TX3) (N := 8) mx mb mts (in_X3_copyFrom_X3) tyX3_ok nmX3 mo hK (8 + t) (wRR_t (by omega)) rfl 2 (by decide) (mts _ (List.mem_of_getElem? (i := 3) rfl)) (fun _ h9 => h9) rfl (by decide +kernel) rfl rfl (Nat.le_of_ble_eq_true rfl) dX3_copyFrom_21 (wRR y a (uc R (8 + t) (zu (zu (zu (R (8 + t)) 0 (S (8 + t) 0)) 1 (S (8 + t) 1)) 2 (S (8 + t) 2))) b S) (wRR_stk2 (by omega) 2 (by decide)) ?_
    refine z_aload_n mx mb dX3_copyFrom_24 rfl 0 rfl ?_
    refine z_aload_n mx mb dX3_copyFrom_25 rfl 1 rfl ?_
    refine z_get (C := RX3) (T := TX3) (N := 8) mx mb mts (in_X3_copyFrom_X3) mo hK zgw (15 + (8 + t)) (wRR_bt (by omega)) rfl 3 (by decide) (mts _ (List.mem_of_getElem? (i := 4) rfl)) (fun _ h9 => h9) rfl dX3_copyFrom_26 ?_
    refine z_put (ty := .int) (C := RX3) (T := TX3) (N := 8) mx mb mts (in_X3_copyFrom_X3) tyX3_ok nmX3 mo hK (8 + t) (wRR_t (by omega)) rfl 3 (by decide) (mts _ (List.mem_of_getElem? (i := 4) rfl)) (fun _ h9 => h9) rfl (by decide +kernel) rfl rfl (Nat.le_of_ble_eq_true rfl) dX3_copyFrom_29 (wRR y a (uc R (8 + t) (zu (zu (zu (zu (R (8 + t)) 0 (S (8 + t) 0)) 1 (S (8 + t) 1)) 2 (S (8 + t) 2)) 3 (S (8 + t) 3))) b S) (wRR_stk2 (by omega) 3 (by decide)) ?_
    refine z_aload_n mx mb dX3_copyFrom_32 rfl 0 rfl ?_
    refine z_aload_n mx mb dX3_copyFrom_33 rfl 1 rfl ?_
    refine z_get (C := RX3) (T := TX3) (N := 8) mx mb mts (in_X3_copyFrom_X3) mo hK zgw (15 + (8 + t)) (wRR_bt (by omega)) rfl 4 (by decide) (mts _ (List.mem_of_getElem? (i := 5) rfl)) (fun _ h9 => h9) rfl dX3_copyFrom_34 ?_
    refine z_put (ty := .int) (C := RX3) (T := TX3) (N := 8) mx mb mts (in_X3_copyFrom_X3) tyX3_ok nmX3 mo hK (8 + t) (wRR_t (by omega)) rfl 4 (by decide) (mts _ (List.mem_of_getElem? (i := 5) rfl)) (fun _ h9 => h9) rfl (by decide +kernel) rfl rfl (Nat.le_of_ble_eq_true rfl) dX3_copyFrom_37 (wRR y a (uc R (8 + t) (zu (zu (zu (zu (zu (R (8 + t)) 0 (S (8 + t) 0)) 1 (S (8 + t) 1)) 2 (S (8 + t) 2)) 3 (S (8 + t) 3)) 4 (S (8 + t) 4))) b S) (wRR_stk2 (by omega) 4 (by decide)) ?_
    refine z_aload_n mx mb dX3_copyFrom_40 rfl 0 rfl ?_
    refine z_aload_n mx mb dX3_copyFrom_41 rfl 1 rfl ?_
    refine z_get (C := RX3) (T := TX3) (N := 8) mx mb mts (in_X3_copyFrom_X3) mo hK zgw (15 + (8 + t)) (wRR_bt (by omega)) rfl 5 (by decide) (mts _ (List.mem_of_getElem? (i := 6) rfl)) (fun _ h9 => h9) rfl dX3_copyFrom_42 ?_
    refine z_put (ty := .int) (C := RX3) (T := TX3) (N := 8) mx mb mts (in_X3_copyFrom_X3) tyX3_ok nmX3 mo hK (8 + t) (wRR_t (by omega)) rfl 5 (by decide) (mts _ (List.mem_of_getElem? (i := 6) rfl)) (fun _ h9 => h9) rfl (by decide +kernel) rfl rfl (Nat.le_of_ble_eq_true rfl) dX3_copyFrom_45 (wRR y a (uc R (8 + t) (zu (zu (zu (zu (zu (zu (R (8 + t)) 0 (S (8 + t) 0)) 1 (S (8 + t) 1)) 2 (S (8 + t) 2)) 3 (S (8 + t) 3)) 4 (S (8 + t) 4)) 5 (S (8 + t) 5))) b S) (wRR_stk2 (by omega) 5 (by decide)) ?_
    refine z_aload_n mx mb dX3_copyFrom_48 rfl 0 rfl ?_
    refine z_aload_n mx mb dX3_copyFrom_49 rfl 1 rfl ?_
    refine z_get (C := RX3) (T := TX3) (N := 8) mx mb mts (in_X3_copyFrom_X3) mo hK zgw (15 + (8 + t)) (wRR_bt (by omega)) rfl 6 (by decide) (mts _ (List.mem_of_getElem? (i := 7) rfl)) (fun _ h9 => h9) rfl dX3_copyFrom_50 ?_
    refine z_put (ty := .int) (C := RX3) (T := TX3) (N := 8) mx mb mts (in_X3_copyFrom_X3) tyX3_ok nmX3 mo hK (8 + t) (wRR_t (by omega)) rfl 6 (by decide) (mts _ (List.mem_of_getElem? (i := 7) rfl)) (fun _ h9 => h9) rfl (by decide +kernel) rfl rfl (Nat.le_of_ble_eq_true rfl) dX3_copyFrom_53 (wRR y a (uc R (8 + t) (zu (zu (zu (zu (zu (zu (zu (R (8 + t)) 0 (S (8 + t) 0)) 1 (S (8 + t) 1)) 2 (S (8 + t) 2)) 3 (S (8 + t) 3)) 4 (S (8 + t) 4)) 5 (S (8 + t) 5)) 6 (S (8 + t) 6))) b S) (wRR_stk2 (by omega) 6 (by decide)) ?_
    refine z_aload_n mx mb dX3_copyFrom_56 rfl 0 rfl ?_
    refine z_aload_n mx mb dX3_copyFrom_57 rfl 1 rfl ?_
    refine z_get (C := RX3) (T := TX3) (N := 8) mx mb mts (in_X3_copyFrom_X3) mo hK zgw (15 + (8 + t)) (wRR_bt (by omega)) rfl 7 (by decide) (mts _ (List.mem_of_getElem? (i := 8) rfl)) (fun _ h9 => h9) rfl dX3_copyFrom_58 ?_
    refine z_put (ty := .int) (C := RX3) (T := TX3) (N := 8) mx mb mts (in_X3_copyFrom_X3) tyX3_ok nmX3 mo hK (8 + t) (wRR_t (by omega)) rfl 7 (by decide) (mts _ (List.mem_of_getElem? (i := 8) rfl)) (fun _ h9 => h9) rfl (by decide +kernel) rfl rfl (Nat.le_of_ble_eq_true rfl) dX3_copyFrom_61 (wRR y a (uc R (8 + t) (zu (zu (zu (zu (zu (zu (zu (zu (R (8 + t)) 0 (S (8 + t) 0)) 1 (S (8 + t) 1)) 2 (S (8 + t) 2)) 3 (S (8 + t) 3)) 4 (S (8 + t) 4)) 5 (S (8 + t) 5)) 6 (S (8 + t) 6)) 7 (S (8 + t) 7))) b S) (wRR_stk2 (by omega) 7 (by decide)) ?_
    rw [hQ]
    exact z_retV mx mb mr mlk hK (uc R (8 + t) (zu (zu (zu (zu (zu (zu (zu (zu (R (8 + t)) 0 (S (8 + t) 0)) 1 (S (8 + t) 1)) 2 (S (8 + t) 2)) 3 (S (8 + t) 3)) 4 (S (8 + t) 4)) 5 (S (8 + t) 5)) 6 (S (8 + t) 6)) 7 (S (8 + t) 7))) (by exact ⟨by rw [uc_s], fun k k0 k1 => by rw [uc_s]; exact copy_end _ _ k k0 k1⟩) rfl dX3_copyFrom_64
  subst hQ
  subst hw0
  exact hstart

theorem in_X1_copyFrom_X1 : ∀ w ∈ wsX10, w ∈ wsX1_copyFrom := by decide +kernel
set_option maxRecDepth 100000 in
set_option maxHeartbeats 4000000 in
theorem c_X1_copyFrom (l : Launch) (D : va_G) (sz : Nat) (y : Nat → ClassId) (a : Nat → Nat) (R : Nat → Int → Int) (b : Nat → Nat) (S : Nat → Int → Int)  : Met l yX1_copyFrom wsX1_copyFrom ({ frames := 1, cells := 0, slots := 0, locals := 48 } : Room) (zPw D vwCl (zT y) (wRR y a R b S) sz [.ref (a 1), .ref (b 1)]) (va_Qv (fun R' : Nat → Int → Int => (∀ j : Nat, j = 0 ∨ 6 ≤ j → R' j = R j) ∧ (R' 1 0 = S 1 0 ∧ R' 1 1 = S 1 1) ∧ (R' 2 = S 2 ∧ R' 3 = S 3 ∧ R' 4 = S 4 ∧ R' 5 = S 5)) (zB D vwCl (zT y) (wRR y a R b S) sz (fun R' : Nat → Int → Int => wRR y a R' b S)) (va_A (wRR y a R b S) sz)) 0 0 (va_A (wRR y a R b S) sz) := by
  refine z_headW (cc := cX1_copyFrom) (maxL := 2) (ret := none) [(0, .ref (a 1)), (1, .ref (b 1))] rfl (Nat.le_of_ble_eq_true rfl) (by decide +kernel) rfl ?_
  intro pp ee ss mm below meth cd mx mb mr mml mo mts mlk hK hname hsz hA
  generalize ([.ref (a 1), .ref (b 1)] : List Value).toArray = args at mts ⊢
  obtain ⟨wst, hw0⟩ : ∃ wst, wst = wRR y a R b S := ⟨_, rfl⟩
  have hA : ∀ q, ss.heap.size ≤ q → va_A wst sz q := by rw [hw0]; exact hA
  obtain ⟨Q, hQ⟩ : ∃ Q, Q = MQ below (va_Qv (fun R' : Nat → Int → Int => (∀ j : Nat, j = 0 ∨ 6 ≤ j → R' j = R j) ∧ (R' 1 0 = S 1 0 ∧ R' 1 1 = S 1 1) ∧ (R' 2 = S 2 ∧ R' 3 = S 3 ∧ R' 4 = S 4 ∧ R' 5 = S 5)) (zB D vwCl (zT y) wst sz (fun R' : Nat → Int → Int => wRR y a R' b S)) (va_A wst sz)) args ss 0 0 (va_A wst sz) := ⟨_, rfl⟩
  have hstart : Gz pp l ee ({ frames := 1, cells := 0, slots := 0, locals := 48 } : Room) ss mm args below meth cd 2 0 0 Q (Zw D vwCl (va_A wst sz) ss (wRR y a R b S)) 0 [(0, .ref (a 1)), (1, .ref (b 1))] [] := by
    refine z_aload_n mx mb dX1_copyFrom_0 rfl 1 rfl ?_
    refine z_get (C := RX1) (T := TX1) (N := 6) mx mb mts (in_X1_copyFrom_X1) mo hK zgw 16 wRR_b1 rfl 0 (by decide) (mts _ (List.mem_of_getElem? (i := 1) rfl)) (fun _ h9 => h9) rfl dX1_copyFrom_1 ?_
    refine z_iconst mx mb dX1_copyFrom_4 ?_
    refine z_aload_n mx mb dX1_copyFrom_5 rfl 0 rfl ?_
    refine z_get (C := RX1) (T := TX1) (N := 6) mx mb mts (in_X1_copyFrom_X1) mo hK zgw 1 wRR_1 rfl 0 (by decide) (mts _ (List.mem_of_getElem? (i := 1) rfl)) (fun _ h9 => h9) rfl dX1_copyFrom_6 ?_
    refine z_iconst mx mb dX1_copyFrom_9 ?_
    refine z_bipush mx mb dX1_copyFrom_10 (by decide +kernel) ?_
    refine z_acopy mx mb mml mo (mts _ (List.mem_of_getElem? (i := 2) rfl)) (mts _ (List.mem_of_getElem? (i := 3) rfl)) (mts _ (List.mem_of_getElem? (i := 4) rfl)) (mts _ (List.mem_of_getElem? (i := 5) rfl)) hK 17 2 0 wRR_b2 wRR_2 rfl rfl (by decide) (Nat.le_of_ble_eq_true rfl) (by decide +kernel) dX1_copyFrom_12 (wRR y a (uc R 2 (S 2)) b S) wRR_s2 ?_
    refine z_aload_n mx mb dX1_copyFrom_15 rfl 1 rfl ?_
    refine z_get (C := RX1) (T := TX1) (N := 6) mx mb mts (in_X1_copyFrom_X1) mo hK zgw 16 wRR_b1 rfl 1 (by decide) (mts _ (List.mem_of_getElem? (i := 6) rfl)) (fun _ h9 => h9) rfl dX1_copyFrom_16 ?_
    refine z_iconst mx mb dX1_copyFrom_19 ?_
    refine z_aload_n mx mb dX1_copyFrom_20 rfl 0 rfl ?_
    refine z_get (C := RX1) (T := TX1) (N := 6) mx mb mts (in_X1_copyFrom_X1) mo hK zgw 1 wRR_1 rfl 1 (by decide) (mts _ (List.mem_of_getElem? (i := 6) rfl)) (fun _ h9 => h9) rfl dX1_copyFrom_21 ?_
    refine z_iconst mx mb dX1_copyFrom_24 ?_
    refine z_bipush mx mb dX1_copyFrom_25 (by decide +kernel) ?_
    refine z_acopy mx mb mml mo (mts _ (List.mem_of_getElem? (i := 2) rfl)) (mts _ (List.mem_of_getElem? (i := 3) rfl)) (mts _ (List.mem_of_getElem? (i := 4) rfl)) (mts _ (List.mem_of_getElem? (i := 5) rfl)) hK 18 3 0 wRR_b3 wRR_3 rfl rfl (by decide) (Nat.le_of_ble_eq_true rfl) (by decide +kernel) dX1_copyFrom_27 (wRR y a (uc (uc R 2 (S 2)) 3 (S 3)) b S) wRR_s3 ?_
    refine z_aload_n mx mb dX1_copyFrom_30 rfl 1 rfl ?_
    refine z_get (C := RX1) (T := TX1) (N := 6) mx mb mts (in_X1_copyFrom_X1) mo hK zgw 16 wRR_b1 rfl 2 (by decide) (mts _ (List.mem_of_getElem? (i := 7) rfl)) (fun _ h9 => h9) rfl dX1_copyFrom_31 ?_
    refine z_iconst mx mb dX1_copyFrom_34 ?_
    refine z_aload_n mx mb dX1_copyFrom_35 rfl 0 rfl ?_
    refine z_get (C := RX1) (T := TX1) (N := 6) mx mb mts (in_X1_copyFrom_X1) mo hK zgw 1 wRR_1 rfl 2 (by decide) (mts _ (List.mem_of_getElem? (i := 7) rfl)) (fun _ h9 => h9) rfl dX1_copyFrom_36 ?_
    refine z_iconst mx mb dX1_copyFrom_39 ?_
    refine z_bipush mx mb dX1_copyFrom_40 (by decide +kernel) ?_
    refine z_acopy mx mb mml mo (mts _ (List.mem_of_getElem? (i := 2) rfl)) (mts _ (List.mem_of_getElem? (i := 3) rfl)) (mts _ (List.mem_of_getElem? (i := 4) rfl)) (mts _ (List.mem_of_getElem? (i := 5) rfl)) hK 19 4 0 wRR_b4 wRR_4 rfl rfl (by decide) (Nat.le_of_ble_eq_true rfl) (by decide +kernel) dX1_copyFrom_42 (wRR y a (uc (uc (uc R 2 (S 2)) 3 (S 3)) 4 (S 4)) b S) wRR_s4 ?_
    refine z_aload_n mx mb dX1_copyFrom_45 rfl 1 rfl ?_
    refine z_get (C := RX1) (T := TX1) (N := 6) mx mb mts (in_X1_copyFrom_X1) mo hK zgw 16 wRR_b1 rfl 3 (by decide) (mts _ (List.mem_of_getElem? (i := 8) rfl)) (fun _ h9 => h9) rfl dX1_copyFrom_46 ?_
    refine z_iconst mx mb dX1_copyFrom_49 ?_
    refine z_aload_n mx mb dX1_copyFrom_50 rfl 0 rfl ?_
    refine z_get (C := RX1) (T := TX1) (N := 6) mx mb mts (in_X1_copyFrom_X1) mo hK zgw 1 wRR_1 rfl 3 (by decide) (mts _ (List.mem_of_getElem? (i := 8) rfl)) (fun _ h9 => h9) rfl dX1_copyFrom_51 ?_
    refine z_iconst mx mb dX1_copyFrom_54 ?_
    refine z_bipush mx mb dX1_copyFrom_55 (by decide +kernel) ?_
    refine z_acopy mx mb mml mo (mts _ (List.mem_of_getElem? (i := 2) rfl)) (mts _ (List.mem_of_getElem? (i := 3) rfl)) (mts _ (List.mem_of_getElem? (i := 4) rfl)) (mts _ (List.mem_of_getElem? (i := 5) rfl)) hK 20 5 0 wRR_b5 wRR_5 rfl rfl (by decide) (Nat.le_of_ble_eq_true rfl) (by decide +kernel) dX1_copyFrom_57 (wRR y a (uc (uc (uc (uc R 2 (S 2)) 3 (S 3)) 4 (S 4)) 5 (S 5)) b S) wRR_s5 ?_
    refine z_aload_n mx mb dX1_copyFrom_60 rfl 0 rfl ?_
    refine z_aload_n mx mb dX1_copyFrom_61 rfl 1 rfl ?_
    refine z_get (C := RX1) (T := TX1) (N := 6) mx mb mts (in_X1_copyFrom_X1) mo hK zgw 16 wRR_b1 rfl 4 (by decide) (mts _ (List.mem_of_getElem? (i := 9) rfl)) (fun _ h9 => h9) rfl dX1_copyFrom_62 ?_
    refine z_put (ty := .int) (C := RX1) (T := TX1) (N := 6) mx mb mts (in_X1_copyFrom_X1) tyX1_ok nmX1 mo hK 1 wRR_1 rfl 4 (by decide) (mts _ (List.mem_of_getElem? (i := 9) rfl)) (fun _ h9 => h9) rfl (by decide +kernel) rfl rfl (Nat.le_of_ble_eq_true rfl) dX1_copyFrom_65 (wRR y a (uc (uc (uc (uc (uc R 2 (S 2)) 3 (S 3)) 4 (S 4)) 5 (S 5)) 1 (zu ((uc (uc (uc (uc R 2 (S 2)) 3 (S 3)) 4 (S 4)) 5 (S 5)) 1) 0 (S 1 0))) b S) wRR_s1_0 ?_
    refine z_aload_n mx mb dX1_copyFrom_68 rfl 0 rfl ?_
    refine z_aload_n mx mb dX1_copyFrom_69 rfl 1 rfl ?_
    refine z_get (C := RX1) (T := TX1) (N := 6) mx mb mts (in_X1_copyFrom_X1) mo hK zgw 16 wRR_b1 rfl 5 (by decide) (mts _ (List.mem_of_getElem? (i := 10) rfl)) (fun _ h9 => h9) rfl dX1_copyFrom_70 ?_
    refine z_put (ty := .int) (C := RX1) (T := TX1) (N := 6) mx mb mts (in_X1_copyFrom_X1) tyX1_ok nmX1 mo hK 1 wRR_1 rfl 5 (by decide) (mts _ (List.mem_of_getElem? (i := 10) rfl)) (fun _ h9 => h9) rfl (by decide +kernel) rfl rfl (Nat.le_of_ble_eq_true rfl) dX1_copyFrom_73 (wRR y a (uc (uc (uc (uc (uc (uc R 2 (S 2)) 3 (S 3)) 4 (S 4)) 5 (S 5)) 1 (zu ((uc (uc (uc (uc R 2 (S 2)) 3 (S 3)) 4 (S 4)) 5 (S 5)) 1) 0 (S 1 0))) 1 (zu ((uc (uc (uc (uc (uc R 2 (S 2)) 3 (S 3)) 4 (S 4)) 5 (S 5)) 1 (zu ((uc (uc (uc (uc R 2 (S 2)) 3 (S 3)) 4 (S 4)) 5 (S 5)) 1) 0 (S 1 0))) 1) 1 (S 1 1))) b S) wRR_s1_1 ?_
    rw [hQ]
    exact z_retV mx mb mr mlk hK (uc (uc (uc (uc (uc (uc R 2 (S 2)) 3 (S 3)) 4 (S 4)) 5 (S 5)) 1 (zu ((uc (uc (uc (uc R 2 (S 2)) 3 (S 3)) 4 (S 4)) 5 (S 5)) 1) 0 (S 1 0))) 1 (zu ((uc (uc (uc (uc (uc R 2 (S 2)) 3 (S 3)) 4 (S 4)) 5 (S 5)) 1 (zu ((uc (uc (uc (uc R 2 (S 2)) 3 (S 3)) 4 (S 4)) 5 (S 5)) 1) 0 (S 1 0))) 1) 1 (S 1 1))) (by exact ⟨fun j hj => by rw [uc_n (by omega), uc_n (by omega), uc_n (by omega), uc_n (by omega), uc_n (by omega), uc_n (by omega)], ⟨rfl, rfl⟩, rfl, rfl, rfl, rfl⟩) rfl dX1_copyFrom_76
  subst hQ
  subst hw0
  exact hstart

theorem in_X0_copyFrom_X0 : ∀ w ∈ wsX00, w ∈ wsX0_copyFrom := by decide +kernel
set_option maxRecDepth 100000 in
set_option maxHeartbeats 4000000 in
theorem c_X0_copyFrom (l : Launch) (D : va_G) (sz : Nat) (y : Nat → ClassId) (a : Nat → Nat) (R : Nat → Int → Int) (b : Nat → Nat) (S : Nat → Int → Int) (f : Int → Int) (hR : Rel f S) (hW : Wf f) : Met l yX0_copyFrom wsX0_copyFrom ({ frames := 2, cells := 0, slots := 0, locals := 69 } : Room) (zPw D vwCl (zT y) (wRR y a R b S) sz [.ref (a 0), .ref (b 0)]) (va_Qv (fun R' : Nat → Int → Int => Rel f R') (zB D vwCl (zT y) (wRR y a R b S) sz (fun R' : Nat → Int → Int => wRR y a R' b S)) (va_A (wRR y a R b S) sz)) 0 0 (va_A (wRR y a R b S) sz) := by
  refine z_headW (cc := cX0_copyFrom) (maxL := 3) (ret := none) [(0, .ref (a 0)), (1, .ref (b 0))] rfl (Nat.le_of_ble_eq_true rfl) (by decide +kernel) rfl ?_
  intro pp ee ss mm below meth cd mx mb mr mml mo mts mlk hK hname hsz hA
  generalize ([.ref (a 0), .ref (b 0)] : List Value).toArray = args at mts ⊢
  obtain ⟨wst, hw0⟩ : ∃ wst, wst = wRR y a R b S := ⟨_, rfl⟩
  have hA : ∀ q, ss.heap.size ≤ q → va_A wst sz q := by rw [hw0]; exact hA
  obtain ⟨Q, hQ⟩ : ∃ Q, Q = MQ below (va_Qv (fun R' : Nat → Int → Int => Rel f R') (zB D vwCl (zT y) wst sz (fun R' : Nat → Int → Int => wRR y a R' b S)) (va_A wst sz)) args ss 0 0 (va_A wst sz) := ⟨_, rfl⟩
  have hstart : Gz pp l ee ({ frames := 2, cells := 0, slots := 0, locals := 69 } : Room) ss mm args below meth cd 3 0 0 Q (Zw D vwCl (va_A wst sz) ss (wRR y a R b S)) 0 [(0, .ref (a 0)), (1, .ref (b 0))] [] := by
    refine z_aload_n mx mb dX0_copyFrom_0 rfl 0 rfl ?_
    refine z_get (C := RX0) (T := TX0) (N := 9) mx mb mts (in_X0_copyFrom_X0) mo hK zgw 0 wRR_0 rfl 0 (by decide) (mts _ (List.mem_of_getElem? (i := 1) rfl)) (fun _ h9 => h9) rfl dX0_copyFrom_1 ?_
    refine z_aload_n mx mb dX0_copyFrom_4 rfl 1 rfl ?_
    refine z_get (C := RX0) (T := TX0) (N := 9) mx mb mts (in_X0_copyFrom_X0) mo hK zgw 15 wRR_b0 rfl 0 (by decide) (mts _ (List.mem_of_getElem? (i := 1) rfl)) (fun _ h9 => h9) rfl dX0_copyFrom_5 ?_
    refine z_callV0 (As := [.ref (b 1)]) (rest := []) ⟨mx, mb, mml, mo, mts⟩ hK hA (fun sz => c_X1_copyFrom l D sz y a R b S  ) (cwV 1 mts gX0_copyFrom_X1_copyFrom rfl rfl rfl (by decide +kernel) ⟨Nat.le_of_ble_eq_true rfl, Nat.le_of_ble_eq_true rfl⟩) 1 wRR_1 rfl rfl rfl rfl (Nat.le_of_ble_eq_true rfl) ⟨Nat.zero_le _, Nat.zero_le _⟩ dX0_copyFrom_8 (fun u8 hu8 => ?_)
    have hu8 : (∀ j : Nat, j = 0 ∨ 6 ≤ j → u8 j = R j) ∧ (u8 1 0 = S 1 0 ∧ u8 1 1 = S 1 1) ∧ (u8 2 = S 2 ∧ u8 3 = S 3 ∧ u8 4 = S 4 ∧ u8 5 = S 5) := hu8
    show Gz pp l ee ({ frames := 2, cells := 0, slots := 0, locals := 69 } : Room) ss mm args below meth cd 3 0 0 Q (Zw D vwCl (va_A wst sz) ss (wRR y a u8 b S)) 11 [(0, .ref (a 0)), (1, .ref (b 0))] []
    refine z_iconst mx mb dX0_copyFrom_11 ?_
    refine z_istore_n mx mb dX0_copyFrom_12 rfl (by decide) [(2, .int (iZ 0)), (0, .ref (a 0)), (1, .ref (b 0))] rfl ?_
    have lp13 : ∀ (nn : Nat) (i : Nat) (Ri : Nat → Int → Int) (x2 : Int), 4 - i < nn → (i ≤ 4) → (x2 = (i : Int)) → (∀ j : Nat, j < 8 ∨ 12 ≤ j → Ri j = u8 j) → (∀ t : Nat, t < i → ∀ k : Int, 0 ≤ k → k < 8 → Ri (8 + t) k = S (8 + t) k) → Gz pp l ee ({ frames := 2, cells := 0, slots := 0, locals := 69 } : Room) ss mm args below meth cd 3 0 0 Q (Zw D vwCl (va_A wst sz) ss (wRR y a Ri b S)) 13 [(0, .ref (a 0)), (1, .ref (b 0)), (2, .int (iZ x2))] [] := by
      intro nn
      induction nn with
      | zero => exact fun i Ri x2 hm => absurd hm (Nat.not_lt_zero _)
      | succ nn ih =>
        intro i Ri x2 hm hi e3 ho ht
        refine z_iload_n mx mb dX0_copyFrom_13 rfl 2 rfl ?_
        refine z_iconst mx mb dX0_copyFrom_14 ?_
        refine z_icmp_ge (tgt := 39) mx mb (by omega) (by omega) dX0_copyFrom_15 (by decide) (fun c15 => ?_) (fun c15 => ?_)
        · skip
          have f1 : Ri 1 0 = S 1 0 ∧ Ri 1 1 = S 1 1 := (by rw [ho 1 (by omega)]; exact hu8.2.1)
          obtain ⟨z2, z3, z4, z5⟩ := hu8.2.2
          have f2 : Ri 2 = S 2 := (ho 2 (by omega)).trans z2
          have f3 : Ri 3 = S 3 := (ho 3 (by omega)).trans z3
          have f4 : Ri 4 = S 4 := (ho 4 (by omega)).trans z4
          have f5 : Ri 5 = S 5 := (ho 5 (by omega)).trans z5
          refine z_aload_n mx mb dX0_copyFrom_39 rfl 1 rfl ?_
          refine z_get (C := RX0) (T := TX0) (N := 9) mx mb mts (in_X0_copyFrom_X0) mo hK zgw 15 wRR_b0 rfl 2 (by decide) (mts _ (List.mem_of_getElem? (i := 3) rfl)) (fun _ h9 => h9) rfl dX0_copyFrom_40 ?_
          refine z_iconst mx mb dX0_copyFrom_43 ?_
          refine z_aload_n mx mb dX0_copyFrom_44 rfl 0 rfl ?_
          refine z_get (C := RX0) (T := TX0) (N := 9) mx mb mts (in_X0_copyFrom_X0) mo hK zgw 0 wRR_0 rfl 2 (by decide) (mts _ (List.mem_of_getElem? (i := 3) rfl)) (fun _ h9 => h9) rfl dX0_copyFrom_45 ?_
          refine z_iconst mx mb dX0_copyFrom_48 ?_
          refine z_aload_n mx mb dX0_copyFrom_49 rfl 0 rfl ?_
          refine z_get (C := RX0) (T := TX0) (N := 9) mx mb mts (in_X0_copyFrom_X0) mo hK zgw 0 wRR_0 rfl 2 (by decide) (mts _ (List.mem_of_getElem? (i := 3) rfl)) (fun _ h9 => h9) rfl dX0_copyFrom_50 ?_
          refine z_alen (z := 4) mx mb hK zgw 7 0 wRR_7 rfl rfl dX0_copyFrom_53 ?_
          refine z_acopy mx mb mml mo (mts _ (List.mem_of_getElem? (i := 4) rfl)) (mts _ (List.mem_of_getElem? (i := 5) rfl)) (mts _ (List.mem_of_getElem? (i := 6) rfl)) (mts _ (List.mem_of_getElem? (i := 7) rfl)) hK 22 7 0 wRR_b7 wRR_7 rfl rfl (by decide) (Nat.le_of_ble_eq_true rfl) (by decide +kernel) dX0_copyFrom_54 (wRR y a (uc Ri 7 (S 7)) b S) wRR_s7 ?_
          refine z_aload_n mx mb dX0_copyFrom_57 rfl 1 rfl ?_
          refine z_get (C := RX0) (T := TX0) (N := 9) mx mb mts (in_X0_copyFrom_X0) mo hK zgw 15 wRR_b0 rfl 3 (by decide) (mts _ (List.mem_of_getElem? (i := 8) rfl)) (fun _ h9 => h9) rfl dX0_copyFrom_58 ?_
          refine z_iconst mx mb dX0_copyFrom_61 ?_
          refine z_aload_n mx mb dX0_copyFrom_62 rfl 0 rfl ?_
          refine z_get (C := RX0) (T := TX0) (N := 9) mx mb mts (in_X0_copyFrom_X0) mo hK zgw 0 wRR_0 rfl 3 (by decide) (mts _ (List.mem_of_getElem? (i := 8) rfl)) (fun _ h9 => h9) rfl dX0_copyFrom_63 ?_
          refine z_iconst mx mb dX0_copyFrom_66 ?_
          refine z_bipush mx mb dX0_copyFrom_67 (by decide +kernel) ?_
          refine z_acopy mx mb mml mo (mts _ (List.mem_of_getElem? (i := 4) rfl)) (mts _ (List.mem_of_getElem? (i := 5) rfl)) (mts _ (List.mem_of_getElem? (i := 6) rfl)) (mts _ (List.mem_of_getElem? (i := 7) rfl)) hK 27 12 0 wRR_b12 wRR_12 rfl rfl (by decide) (Nat.le_of_ble_eq_true rfl) (by decide +kernel) dX0_copyFrom_69 (wRR y a (uc (uc Ri 7 (S 7)) 12 (S 12)) b S) wRR_s12 ?_
          refine z_aload_n mx mb dX0_copyFrom_72 rfl 1 rfl ?_
          refine z_get (C := RX0) (T := TX0) (N := 9) mx mb mts (in_X0_copyFrom_X0) mo hK zgw 15 wRR_b0 rfl 4 (by decide) (mts _ (List.mem_of_getElem? (i := 9) rfl)) (fun _ h9 => h9) rfl dX0_copyFrom_73 ?_
          refine z_iconst mx mb dX0_copyFrom_76 ?_
          refine z_aload_n mx mb dX0_copyFrom_77 rfl 0 rfl ?_
          refine z_get (C := RX0) (T := TX0) (N := 9) mx mb mts (in_X0_copyFrom_X0) mo hK zgw 0 wRR_0 rfl 4 (by decide) (mts _ (List.mem_of_getElem? (i := 9) rfl)) (fun _ h9 => h9) rfl dX0_copyFrom_78 ?_
          refine z_iconst mx mb dX0_copyFrom_81 ?_
          refine z_bipush mx mb dX0_copyFrom_82 (by decide +kernel) ?_
          refine z_acopy mx mb mml mo (mts _ (List.mem_of_getElem? (i := 4) rfl)) (mts _ (List.mem_of_getElem? (i := 5) rfl)) (mts _ (List.mem_of_getElem? (i := 6) rfl)) (mts _ (List.mem_of_getElem? (i := 7) rfl)) hK 28 13 0 wRR_b13 wRR_13 rfl rfl (by decide) (Nat.le_of_ble_eq_true rfl) (by decide +kernel) dX0_copyFrom_84 (wRR y a (uc (uc (uc Ri 7 (S 7)) 12 (S 12)) 13 (S 13)) b S) wRR_s13 ?_
          refine z_aload_n mx mb dX0_copyFrom_87 rfl 1 rfl ?_
          refine z_get (C := RX0) (T := TX0) (N := 9) mx mb mts (in_X0_copyFrom_X0) mo hK zgw 15 wRR_b0 rfl 5 (by decide) (mts _ (List.mem_of_getElem? (i := 10) rfl)) (fun _ h9 => h9) rfl dX0_copyFrom_88 ?_
          refine z_iconst mx mb dX0_copyFrom_91 ?_
          refine z_aload_n mx mb dX0_copyFrom_92 rfl 0 rfl ?_
          refine z_get (C := RX0) (T := TX0) (N := 9) mx mb mts (in_X0_copyFrom_X0) mo hK zgw 0 wRR_0 rfl 5 (by decide) (mts _ (List.mem_of_getElem? (i := 10) rfl)) (fun _ h9 => h9) rfl dX0_copyFrom_93 ?_
          refine z_iconst mx mb dX0_copyFrom_96 ?_
          refine z_bipush mx mb dX0_copyFrom_97 (by decide +kernel) ?_
          refine z_acopy mx mb mml mo (mts _ (List.mem_of_getElem? (i := 4) rfl)) (mts _ (List.mem_of_getElem? (i := 5) rfl)) (mts _ (List.mem_of_getElem? (i := 6) rfl)) (mts _ (List.mem_of_getElem? (i := 7) rfl)) hK 29 14 0 wRR_b14 wRR_14 rfl rfl (by decide) (Nat.le_of_ble_eq_true rfl) (by decide +kernel) dX0_copyFrom_99 (wRR y a (uc (uc (uc (uc Ri 7 (S 7)) 12 (S 12)) 13 (S 13)) 14 (S 14)) b S) wRR_s14 ?_
          refine z_aload_n mx mb dX0_copyFrom_102 rfl 0 rfl ?_
          refine z_aload_n mx mb dX0_copyFrom_103 rfl 1 rfl ?_
          refine z_get (C := RX0) (T := TX0) (N := 9) mx mb mts (in_X0_copyFrom_X0) mo hK zgw 15 wRR_b0 rfl 6 (by decide) (mts _ (List.mem_of_getElem? (i := 11) rfl)) (fun _ h9 => h9) rfl dX0_copyFrom_104 ?_
          refine z_put (ty := .int) (C := RX0) (T := TX0) (N := 9) mx mb mts (in_X0_copyFrom_X0) tyX0_ok nmX0 mo hK 0 wRR_0 rfl 6 (by decide) (mts _ (List.mem_of_getElem? (i := 11) rfl)) (fun _ h9 => h9) rfl (by decide +kernel) rfl rfl (Nat.le_of_ble_eq_true rfl) dX0_copyFrom_107 (wRR y a (uc (uc (uc (uc (uc Ri 7 (S 7)) 12 (S 12)) 13 (S 13)) 14 (S 14)) 0 (zu ((uc (uc (uc (uc Ri 7 (S 7)) 12 (S 12)) 13 (S 13)) 14 (S 14)) 0) 0 (S 0 0))) b S) wRR_s0_0 ?_
          refine z_aload_n mx mb dX0_copyFrom_110 rfl 0 rfl ?_
          refine z_aload_n mx mb dX0_copyFrom_111 rfl 1 rfl ?_
          refine z_get (C := RX0) (T := TX0) (N := 9) mx mb mts (in_X0_copyFrom_X0) mo hK zgw 15 wRR_b0 rfl 7 (by decide) (mts _ (List.mem_of_getElem? (i := 12) rfl)) (fun _ h9 => h9) rfl dX0_copyFrom_112 ?_
          refine z_put (ty := .int) (C := RX0) (T := TX0) (N := 9) mx mb mts (in_X0_copyFrom_X0) tyX0_ok nmX0 mo hK 0 wRR_0 rfl 7 (by decide) (mts _ (List.mem_of_getElem? (i := 12) rfl)) (fun _ h9 => h9) rfl (by decide +kernel) rfl rfl (Nat.le_of_ble_eq_true rfl) dX0_copyFrom_115 (wRR y a (uc (uc (uc (uc (uc (uc Ri 7 (S 7)) 12 (S 12)) 13 (S 13)) 14 (S 14)) 0 (zu ((uc (uc (uc (uc Ri 7 (S 7)) 12 (S 12)) 13 (S 13)) 14 (S 14)) 0) 0 (S 0 0))) 0 (zu ((uc (uc (uc (uc (uc Ri 7 (S 7)) 12 (S 12)) 13 (S 13)) 14 (S 14)) 0 (zu ((uc (uc (uc (uc Ri 7 (S 7)) 12 (S 12)) 13 (S 13)) 14 (S 14)) 0) 0 (S 0 0))) 0) 1 (S 0 1))) b S) wRR_s0_1 ?_
          refine z_aload_n mx mb dX0_copyFrom_118 rfl 0 rfl ?_
          refine z_aload_n mx mb dX0_copyFrom_119 rfl 1 rfl ?_
          refine z_get (C := RX0) (T := TX0) (N := 9) mx mb mts (in_X0_copyFrom_X0) mo hK zgw 15 wRR_b0 rfl 8 (by decide) (mts _ (List.mem_of_getElem? (i := 13) rfl)) (fun _ h9 => h9) rfl dX0_copyFrom_120 ?_
          refine z_put (ty := .int) (C := RX0) (T := TX0) (N := 9) mx mb mts (in_X0_copyFrom_X0) tyX0_ok nmX0 mo hK 0 wRR_0 rfl 8 (by decide) (mts _ (List.mem_of_getElem? (i := 13) rfl)) (fun _ h9 => h9) rfl (by decide +kernel) rfl rfl (Nat.le_of_ble_eq_true rfl) dX0_copyFrom_123 (wRR y a (uc (uc (uc (uc (uc (uc (uc Ri 7 (S 7)) 12 (S 12)) 13 (S 13)) 14 (S 14)) 0 (zu ((uc (uc (uc (uc Ri 7 (S 7)) 12 (S 12)) 13 (S 13)) 14 (S 14)) 0) 0 (S 0 0))) 0 (zu ((uc (uc (uc (uc (uc Ri 7 (S 7)) 12 (S 12)) 13 (S 13)) 14 (S 14)) 0 (zu ((uc (uc (uc (uc Ri 7 (S 7)) 12 (S 12)) 13 (S 13)) 14 (S 14)) 0) 0 (S 0 0))) 0) 1 (S 0 1))) 0 (zu ((uc (uc (uc (uc (uc (uc Ri 7 (S 7)) 12 (S 12)) 13 (S 13)) 14 (S 14)) 0 (zu ((uc (uc (uc (uc Ri 7 (S 7)) 12 (S 12)) 13 (S 13)) 14 (S 14)) 0) 0 (S 0 0))) 0 (zu ((uc (uc (uc (uc (uc Ri 7 (S 7)) 12 (S 12)) 13 (S 13)) 14 (S 14)) 0 (zu ((uc (uc (uc (uc Ri 7 (S 7)) 12 (S 12)) 13 (S 13)) 14 (S 14)) 0) 0 (S 0 0))) 0) 1 (S 0 1))) 0) 2 (S 0 2))) b S) wRR_s0_2 ?_
          rw [hQ]
          exact z_retV mx mb mr mlk hK (uc (uc (uc (uc (uc (uc (uc Ri 7 (S 7)) 12 (S 12)) 13 (S 13)) 14 (S 14)) 0 (zu ((uc (uc (uc (uc Ri 7 (S 7)) 12 (S 12)) 13 (S 13)) 14 (S 14)) 0) 0 (S 0 0))) 0 (zu ((uc (uc (uc (uc (uc Ri 7 (S 7)) 12 (S 12)) 13 (S 13)) 14 (S 14)) 0 (zu ((uc (uc (uc (uc Ri 7 (S 7)) 12 (S 12)) 13 (S 13)) 14 (S 14)) 0) 0 (S 0 0))) 0) 1 (S 0 1))) 0 (zu ((uc (uc (uc (uc (uc (uc Ri 7 (S 7)) 12 (S 12)) 13 (S 13)) 14 (S 14)) 0 (zu ((uc (uc (uc (uc Ri 7 (S 7)) 12 (S 12)) 13 (S 13)) 14 (S 14)) 0) 0 (S 0 0))) 0 (zu ((uc (uc (uc (uc (uc Ri 7 (S 7)) 12 (S 12)) 13 (S 13)) 14 (S 14)) 0 (zu ((uc (uc (uc (uc Ri 7 (S 7)) 12 (S 12)) 13 (S 13)) 14 (S 14)) 0) 0 (S 0 0))) 0) 1 (S 0 1))) 0) 2 (S 0 2))) (by show Rel _ _; exact rel_copy hR hW ⟨rfl, rfl, rfl⟩ f1 ⟨f2, f3, f4, f5, rfl, rfl, rfl, rfl⟩ (fun t h k k0 k1 => by rw [uc_n (by omega), uc_n (by omega), uc_n (by omega), uc_n (by omega), uc_n (by omega), uc_n (by omega), uc_n (by omega)]; exact ht t (by omega) k k0 k1)) rfl dX0_copyFrom_126
        · skip
          refine z_aload_n mx mb dX0_copyFrom_18 rfl 0 rfl ?_
          refine z_get (C := RX0) (T := TX0) (N := 9) mx mb mts (in_X0_copyFrom_X0) mo hK zgw 0 wRR_0 rfl 1 (by decide) (mts _ (List.mem_of_getElem? (i := 2) rfl)) (fun _ h9 => h9) rfl dX0_copyFrom_19 ?_
          refine z_iload_n mx mb dX0_copyFrom_22 rfl 2 rfl ?_
          refine z_top (show x2 = (i : Int) from by exact e3) ?_
          refine z_aald (i := i) mx mb hK zgw 6 1 wRR_6 rfl (by decide) (by omega) dX0_copyFrom_23 ?_
          refine z_aload_n mx mb dX0_copyFrom_24 rfl 1 rfl ?_
          refine z_get (C := RX0) (T := TX0) (N := 9) mx mb mts (in_X0_copyFrom_X0) mo hK zgw 15 wRR_b0 rfl 1 (by decide) (mts _ (List.mem_of_getElem? (i := 2) rfl)) (fun _ h9 => h9) rfl dX0_copyFrom_25 ?_
          refine z_iload_n mx mb dX0_copyFrom_28 rfl 2 rfl ?_
          refine z_top (show x2 = (i : Int) from by exact e3) ?_
          refine z_aald (i := i) mx mb hK zgw 21 1 wRR_b6 rfl (by decide) (by omega) dX0_copyFrom_29 ?_
          refine z_callV0 (As := [.ref (b (8 + i))]) (rest := []) ⟨mx, mb, mml, mo, mts⟩ hK hA (fun sz => c_X3_copyFrom l D sz y a Ri b S i (by omega)) (cwV 1 mts gX0_copyFrom_X3_copyFrom rfl rfl rfl (by decide +kernel) ⟨Nat.le_of_ble_eq_true rfl, Nat.le_of_ble_eq_true rfl⟩) (8 + i) (wRR_t (by omega)) rfl rfl rfl rfl (Nat.le_of_ble_eq_true rfl) ⟨Nat.zero_le _, Nat.zero_le _⟩ dX0_copyFrom_30 (fun u30 hu30 => ?_)
          have hu30 : u30 = uc Ri (8 + i) (u30 (8 + i)) ∧ ∀ k : Int, 0 ≤ k → k < 8 → u30 (8 + i) k = S (8 + i) k := hu30
          show Gz pp l ee ({ frames := 2, cells := 0, slots := 0, locals := 69 } : Room) ss mm args below meth cd 3 0 0 Q (Zw D vwCl (va_A wst sz) ss (wRR y a u30 b S)) 33 [(0, .ref (a 0)), (1, .ref (b 0)), (2, .int (iZ x2))] []
          refine z_iinc mx mb dX0_copyFrom_33 2 rfl (by decide) [(2, .int (iZ (x2 + 1))), (0, .ref (a 0)), (1, .ref (b 0))] rfl ?_
          refine z_goto (tgt := 13) mx mb dX0_copyFrom_36 (by decide) ?_
          refine z_lv [1, 2, 0] rfl ?_
          exact ih (i + 1) _ _ (by omega) (by omega) (by omega) (by exact (cp_step hu30 (by omega) ho ht).1) (by exact (cp_step hu30 (by omega) ho ht).2)
    refine z_lv [1, 2, 0] rfl ?_
    exact lp13 _ 0 u8 0 (Nat.lt_succ_self _) (by omega) (by rfl) (by exact fun j _ => rfl) (by intro t ht; omega)
  subst hQ
  subst hw0
  exact hstart
