theorem in_X3_copyFrom_X3 : ∀ w ∈ wsX30, w ∈ wsX3_copyFrom := by decide +kernel
set_option maxRecDepth 100000 in
set_option maxHeartbeats 4000000 in
theorem c_X3_copyFrom (l : Launch) (D : va_G) (sz : Nat) (y : Nat → ClassId) (a : Nat → Nat) (R : Nat → Int → Int) (b : Nat → Nat) (S : Nat → Int → Int) (t : Nat) (ht : t < 4) : Met l yX3_copyFrom wsX3_copyFrom ({ frames := 0, cells := 0, slots := 0, locals := 0 } : Room) (zPw D vwCl (zT y) (wRR y a R b S) sz [.ref (a (8 + t)), .ref (b (8 + t))]) (va_Qv (fun R' : Nat → Int → Int => R' = uc R (8 + t) (R' (8 + t)) ∧ ∀ k : Int, 0 ≤ k → k < 8 → R' (8 + t) k = S (8 + t) k) (zB D vwCl (zT y) (wRR y a R b S) sz (fun R' : Nat → Int → Int => wRR y a R' b S)) (va_A (wRR y a R b S) sz)) 0 0 (va_A (wRR y a R b S) sz) := by
  refine z_headW (cc := cX3_copyFrom) (maxL := 2) (ret := none) [(0, .ref (a (8 + t))), (1, .ref (b (8 + t)))] rfl (Nat.le_of_ble_eq_true rfl) (by decide +kernel) rfl ?_
  intro pp ee ss mm below meth cd mx mb mr mml mo mts mlk hK hname hsz hA
  generalize ([.ref (a (8 + t)), .ref (b (8 + t))] : List Value).toArray = args at mts ⊢
  obtain ⟨wst, hw0⟩ : ∃ wst, wst = wRR y a R b S := ⟨_, rfl⟩
  have hA : ∀ q, ss.heap.size ≤ q → va_A wst sz q := by rw [hw0]; exact hA
  obtain ⟨Q, hQ⟩ : ∃ Q, Q = MQ below (va_Qv (fun R' : Nat → Int → Int => R' = uc R (8 + t) (R' (8 + t)) ∧ ∀ k : Int, 0 ≤ k → k < 8 → R' (8 + t) k = S (8 + t) k) (zB D vwCl (zT y) wst sz (fun R' : Nat → Int → Int => wRR y a R' b S)) (va_A wst sz)) args ss 0 0 (va_A wst sz) := ⟨_, rfl⟩
  have hstart : Gz pp l ee ({ frames := 0, cells := 0, slots := 0, locals := 0 } : Room) ss mm args below meth cd 2 0 0 Q (Zw D vwCl (va_A wst sz) ss (wRR y a R b S)) 0 [(0, .ref (a (8 + t))), (1, .ref (b (8 + t)))] [] := by
    refine z_aload_n mx mb dX3_copyFrom_0 rfl 0 rfl ?_
    refine z_aload_n mx mb dX3_copyFrom_1 rfl 1 rfl ?_
    refine z_get (C := RX3) (T := TX3) (N := 8) mx mb mts (in_X3_copyFrom_X3) mo hK zgw (15 + (8 + t)) (wRR_bt (by omega)) rfl 0 (by decide) (mts _ (List.mem_of_getElem? (i := 1) rfl)) (fun _ h9 => h9) rfl dX3_copyFrom_2 ?_
    refine z_put (ty := .int) (C := RX3) (T := TX3) (N := 8) mx mb mts (in_X3_copyFrom_X3) tyX3_ok nmX3 mo hK (8 + t) (wRR_t (by omega)) rfl 0 (by decide) (mts _ (List.mem_of_getElem? (i := 1) rfl)) (fun _ h9 => h9) rfl (by decide +kernel) rfl rfl (Nat.le_of_ble_eq_true rfl) dX3_copyFrom_5 (wRR y a (uc R (8 + t) (zu (R (8 + t)) 0 (S (8 + t) 0))) b S) (wRR_stk (by omega) 0 (by decide)) ?_
    refine z_aload_n mx mb dX3_copyFrom_8 rfl 0 rfl ?_
    refine z_aload_n mx mb dX3_copyFrom_9 rfl 1 rfl ?_
    refine z_get (C := RX3) (T := TX3) (N := 8) mx mb mts (in_X3_copyFrom_X3) mo hK zgw (15 + (8 + t)) (wRR_bt (by omega)) rfl 1 (by decide) (mts _ (List.mem_of_getElem? (i := 2) rfl)) (fun _ h9 => h9) rfl dX3_copyFrom_10 ?_
    refine z_put (ty := .int) (C := RX3) (T := TX3) (N := 8) mx mb mts (in_X3_copyFrom_X3) tyX3_ok nmX3 mo hK (8 + t) (wRR_t (by omega)) rfl 1 (by decide) (mts _ (List.mem_of_getElem? (i := 2) rfl)) (fun _ h9 => h9) rfl (by decide +kernel) rfl rfl (Nat.le_of_ble_eq_true rfl) dX3_copyFrom_13 (wRR y a (uc R (8 + t) (zu (zu (R (8 + t)) 0 (S (8 + t) 0)) 1 (S (8 + t) 1))) b S) (wRR_stk2 (by omega) 1 (by decide)) ?_
    refine z_aload_n mx mb dX3_copyFrom_16 rfl 0 rfl ?_
    refine z_aload_n mx mb dX3_copyFrom_17 rfl 1 rfl ?_
    refine z_get (C := RX3) (T := TX3) (N := 8) mx mb mts (in_X3_copyFrom_X3) mo hK zgw (15 + (8 + t)) (wRR_bt (by omega)) rfl 2 (by decide) (mts _ (List.mem_of_getElem? (i := 3) rfl)) (fun _ h9 => h9) rfl dX3_copyFrom_18 ?_
    refine z_put (ty := .int) (C := RX3) (T := TX3) (N := 8) mx mb mts (in_X3_copyFrom_X3) tyX3_ok nmX3 mo hK (8 + t) (wRR_t (by omega)) rfl 2 (by decide) (mts _ (List.mem_of_getElem? (i := 3) rfl)) (fun _ h9 => h9) rfl (by decide +kernel) rfl rfl (Nat.le_of_ble_eq_true rfl) dX3_copyFrom_21 (wRR y a (uc R (8 + t) (zu (zu (zu (R (8 + t)) 0 (S (8 + t) 0)) 1 (S (8 + t) 1)) 2 (S (8 + t) 2))) b S) (wRR_stk2 (by omega) 2 (by decide)) ?_
    refine z_aload_n mx mb dX3_copyFrom_24 rfl 0 rfl ?_
    refine z_aload_n mx mb dX3_copyFrom_25 rfl 1 rfl ?_
    refine z_get (C := RX3) (T := TX3) (N := 8) mx mb mts (in_X3_copyFrom_X3) mo hK zgw (15 + (8 + t)) (wRR_bt (by omega)) rfl 3 (by decide) (mts _ (List.mem_of_getElem? (i := 4) rfl)) (fun _ h9 => h9) rfl dX3_copyFrom_26 ?_
    refine z_put (ty := .int) (C := RX3) (T := TX3) (N := 8) mx mb mts (in_X3_copyFrom_X3) tyX3_ok nmX3 mo hK (8 + t) (wRR_t (by omega)) rfl 3 (by decide) (mts _ (List.mem_of_getElem? (i := 4) rfl)) (fun _ h9 => h9) rfl (by decide +kernel) rfl rfl (Nat.le_of_ble_eq_true rfl) dX3_copyFrom_29 (wRR y a (uc R (8 + t) (zu (zu (zu (zu (R (8 + t)) 0 (S (8 + t) 0)) 1 (S (8 + t) 1)) 2 (S (8 + t) 2)) 3 (S (8 + t) 3))) b S) (wRR_stk2 (by omega) 3 (by decide)) ?_
    refine z_aload_n mx mb dX3_copyFrom_32 rfl 0 rfl ?_
    refine z_aload_n mx mb dX3_copyFrom_33 rfl 1 rfl ?_
    refine z_get (C := RX3) (T := TX3) (N := 8) mx mb mts (in_X3_copyFrom_X3) mo hK zgw (15 + (8 + t)) (wRR_bt (by omega)) rfl 4 (by decide) (mts _ (List.mem_of_getElem? (i := 5) rfl)) (fun _ h9 => h9) rfl dX3_copyFrom_34 ?_
    refine z_put (ty := .int) (C := RX3) (T := TX3) (N := 8) mx mb mts (in_X3_copyFrom_X3) tyX3_ok nmX3 mo hK (8 + t) (wRR_t (by omega)) rfl 4 (by decide) (mts _ (List.mem_of_getElem? (i := 5) rfl)) (fun _ h9 => h9) rfl (by decide +kernel) rfl rfl (Nat.le_of_ble_eq_true rfl) dX3_copyFrom_37 (wRR y a (uc R (8 + t) (zu (zu (zu (zu (zu (R (8 + t)) 0 (S (8 + t) 0)) 1 (S (8 + t) 1)) 2 (S (8 + t) 2)) 3 (S (8 + t) 3)) 4 (S (8 + t) 4))) b S) (wRR_stk2 (by omega) 4 (by decide)) ?_
    refine z_aload_n mx mb dX3_copyFrom_40 rfl 0 rfl ?_
    refine z_aload_n mx mb dX3_copyFrom_41 rfl 1 rfl ?_
    refine z_get (C := RX3) (T := TX3) (N := 8) mx mb mts (in_X3_copyFrom_X3) mo hK zgw (15 + (8 + t)) (wRR_bt (by omega)) rfl 5 (by decide) (mts _ (List.mem_of_getElem? (i := 6) rfl)) (fun _ h9 => h9) rfl dX3_copyFrom_42 ?_
    refine z_put (ty := .int) (C := RX3) (T := TX3) (N := 8) mx mb mts (in_X3_copyFrom_X3) tyX3_ok nmX3 mo hK (8 + t) (wRR_t (by omega)) rfl 5 (by decide) (mts _ (List.mem_of_getElem? (i := 6) rfl)) (fun _ h9 => h9) rfl (by decide +kernel) rfl rfl (Nat.le_of_ble_eq_true rfl) dX3_copyFrom_45 (wRR y a (uc R (8 + t) (zu (zu (zu (zu (zu (zu (R (8 + t)) 0 (S (8 + t) 0)) 1 (S (8 + t) 1)) 2 (S (8 + t) 2)) 3 (S (8 + t) 3)) 4 (S (8 + t) 4)) 5 (S (8 + t) 5))) b S) (wRR_stk2 (by omega) 5 (by decide)) ?_
    refine z_aload_n mx mb dX3_copyFrom_48 rfl 0 rfl ?_
    refine z_aload_n mx mb dX3_copyFrom_49 rfl 1 rfl ?_
    refine z_get (C := RX3) (T := TX3) (N := 8) mx mb mts (in_X3_copyFrom_X3) mo hK zgw (15 + (8 + t)) (wRR_bt (by omega)) rfl 6 (by decide) (mts _ (List.mem_of_getElem? (i := 7) rfl)) (fun _ h9 => h9) rfl dX3_copyFrom_50 ?_
    refine z_put (ty := .int) (C := RX3) (T := TX3) (N := 8) mx mb mts (in_X3_copyFrom_X3) tyX3_ok nmX3 mo hK (8 + t) (wRR_t (by omega)) rfl 6 (by decide) (mts _ (List.mem_of_getElem? (i := 7) rfl)) (fun _ h9 => h9) rfl (by decide +kernel) rfl rfl (Nat.le_of_ble_eq_true rfl) dX3_copyFrom_53 (wRR y a (uc R (8 + t) (zu (zu (zu (zu (zu (zu (zu (R (8 + t)) 0 (S (8 + t) 0)) 1 (S (8 + t) 1)) 2 (S (8 + t) 2)) 3 (S (8 + t) 3)) 4 (S (8 + t) 4)) 5 (S (8 + t) 5)) 6 (S (8 + t) 6))) b S) (wRR_stk2 (by omega) 6 (by decide)) ?_
    refine z_aload_n mx mb dX3_copyFrom_56 rfl 0 rfl ?_
    refine z_aload_n mx mb dX3_copyFrom_57 rfl 1 rfl ?_
    refine z_get (C := RX3) (T := TX3) (N := 8) mx mb mts (in_X3_copyFrom_X3) mo hK zgw (15 + (8 + t)) (wRR_bt (by omega)) rfl 7 (by decide) (mts _ (List.mem_of_getElem? (i := 8) rfl)) (fun _ h9 => h9) rfl dX3_copyFrom_58 ?_
    refine z_put (ty := .int) (C := RX3) (T := TX3) (N := 8) mx mb mts (in_X3_copyFrom_X3) tyX3_ok nmX3 mo hK (8 + t) (wRR_t (by omega)) rfl 7 (by decide) (mts _ (List.mem_of_getElem? (i := 8) rfl)) (fun _ h9 => h9) rfl (by decide +kernel) rfl rfl (Nat.le_of_ble_eq_true rfl) dX3_copyFrom_61 (wRR y a (uc R (8 + t) (zu (zu (zu (zu (zu (zu (zu (zu (R (8 + t)) 0 (S (8 + t) 0)) 1 (S (8 + t) 1)) 2 (S (8 + t) 2)) 3 (S (8 + t) 3)) 4 (S (8 + t) 4)) 5 (S (8 + t) 5)) 6 (S (8 + t) 6)) 7 (S (8 + t) 7))) b S) (wRR_stk2 (by omega) 7 (by decide)) ?_
    rw [hQ]
    exact z_retV mx mb mr mlk hK (uc R (8 + t) (zu (zu (zu (zu (zu (zu (zu (zu (R (8 + t)) 0 (S (8 + t) 0)) 1 (S (8 + t) 1)) 2 (S (8 + t) 2)) 3 (S (8 + t) 3)) 4 (S (8 + t) 4)) 5 (S (8 + t) 5)) 6 (S (8 + t) 6)) 7 (S (8 + t) 7))) (by exact ⟨by rw [uc_s], fun k k0 k1 => by rw [uc_s]; exact copy_end _ _ k k0 k1⟩) rfl dX3_copyFrom_64
  subst hQ
  subst hw0
  exact hstart

theorem in_X1_copyFrom_X1 : ∀ w ∈ wsX10, w ∈ wsX1_copyFrom := by decide +kernel
set_option maxRecDepth 100000 in
set_option maxHeartbeats 4000000 in
theorem c_X1_copyFrom (l : Launch) (D : va_G) (sz : Nat) (y : Nat → ClassId) (a : Nat → Nat) (R : Nat → Int → Int) (b : Nat → Nat) (S : Nat → Int → Int)  : Met l yX1_copyFrom wsX1_copyFrom ({ frames := 1, cells := 0, slots := 0, locals := 48 } : Room) (zPw D vwCl (zT y) (wRR y a R b S) sz [.ref (a 1), .ref (b 1)]) (va_Qv (fun R' : Nat → Int → Int => (∀ j : Nat, j = 0 ∨ 6 ≤ j → R' j = R j) ∧ (R' 1 0 = S 1 0 ∧ R' 1 1 = S 1 1) ∧ (R' 2 = S 2 ∧ R' 3 = S 3 ∧ R' 4 = S 4 ∧ R' 5 = S 5)) (zB D vwCl (zT y) (wRR y a R b S) sz (fun R' : Nat → Int → Int => wRR y a R' b S)) (va_A (wRR y a R b S) sz)) 0 0 (va_A (wRR y a R b S) sz) := by
  refine z_headW (cc := cX1_copyFrom) (maxL := 2) (ret := none) [(0, .ref (a 1)), (1, .ref (b 1))] rfl (Nat.le_of_ble_eq_true rfl) (by decide +kernel) rfl ?_
  intro pp ee ss mm below meth cd mx mb mr mml mo mts mlk hK hname hsz hA
  generalize ([.ref (a 1), .ref (b 1)] : List Value).toArray = args at mts ⊢
  obtain ⟨wst, hw0⟩ : ∃ wst, wst = wRR y a R b S := ⟨_, rfl⟩
  have hA : ∀ q, ss.heap.size ≤ q → va_A wst sz q := by rw [hw0]; exact hA
  obtain ⟨Q, hQ⟩ : ∃ Q, Q = MQ below (va_Qv (fun R' : Nat → Int → Int => (∀ j : Nat, j = 0 ∨ 6 ≤ j → R' j = R j) ∧ (R' 1 0 = S 1 0 ∧ R' 1 1 = S 1 1) ∧ (R' 2 = S 2 ∧ R' 3 = S 3 ∧ R' 4 = S 4 ∧ R' 5 = S 5)) (zB D vwCl (zT y) wst sz (fun R' : Nat → Int → Int => wRR y a R' b S)) (va_A wst sz)) args ss 0 0 (va_A wst sz) := ⟨_, rfl⟩
  have hstart : Gz pp l ee ({ frames := 1, cells := 0, slots := 0, locals := 48 } : Room) ss mm args below meth cd 2 0 0 Q (Zw D vwCl (va_A wst sz) ss (wRR y a R b S)) 0 [(0, .ref (a 1)), (1, .ref (b 1))] [] := by
    refine z_aload_n mx mb dX1_copyFrom_0 rfl 1 rfl ?_
    refine z_get (C := RX1) (T := TX1) (N := 6) mx mb mts (in_X1_copyFrom_X1) mo hK zgw 16 wRR_b1 rfl 0 (by decide) (mts _ (List.mem_of_getElem? (i := 1) rfl)) (fun _ h9 => h9) rfl dX1_copyFrom_1 ?_
    refine z_iconst mx mb dX1_copyFrom_4 ?_
    refine z_aload_n mx mb dX1_copyFrom_5 rfl 0 rfl ?_
    refine z_get (C := RX1) (T := TX1) (N := 6) mx mb mts (in_X1_copyFrom_X1) mo hK zgw 1 wRR_1 rfl 0 (by decide) (mts _ (List.mem_of_getElem? (i := 1) rfl)) (fun _ h9 => h9) rfl dX1_copyFrom_6 ?_
    refine z_iconst mx mb dX1_copyFrom_9 ?_
    refine z_bipush mx mb dX1_copyFrom_10 (by decide +kernel) ?_
    refine z_acopy mx mb mml mo (mts _ (List.mem_of_getElem? (i := 2) rfl)) (mts _ (List.mem_of_getElem? (i := 3) rfl)) (mts _ (List.mem_of_getElem? (i := 4) rfl)) (mts _ (List.mem_of_getElem? (i := 5) rfl)) hK 17 2 0 wRR_b2 wRR_2 rfl rfl (by decide) (Nat.le_of_ble_eq_true rfl) (by decide +kernel) dX1_copyFrom_12 (wRR y a (uc R 2 (S 2)) b S) wRR_s2 ?_
    refine z_aload_n mx mb dX1_copyFrom_15 rfl 1 rfl ?_
    refine z_get (C := RX1) (T := TX1) (N := 6) mx mb mts (in_X1_copyFrom_X1) mo hK zgw 16 wRR_b1 rfl 1 (by decide) (mts _ (List.mem_of_getElem? (i := 6) rfl)) (fun _ h9 => h9) rfl dX1_copyFrom_16 ?_
    refine z_iconst mx mb dX1_copyFrom_19 ?_
    refine z_aload_n mx mb dX1_copyFrom_20 rfl 0 rfl ?_
    refine z_get (C := RX1) (T := TX1) (N := 6) mx mb mts (in_X1_copyFrom_X1) mo hK zgw 1 wRR_1 rfl 1 (by decide) (mts _ (List.mem_of_getElem? (i := 6) rfl)) (fun _ h9 => h9) rfl dX1_copyFrom_21 ?_
    refine z_iconst mx mb dX1_copyFrom_24 ?_
    refine z_bipush mx mb dX1_copyFrom_25 (by decide +kernel) ?_
    refine z_acopy mx mb mml mo (mts _ (List.mem_of_getElem? (i := 2) rfl)) (mts _ (List.mem_of_getElem? (i := 3) rfl)) (mts _ (List.mem_of_getElem? (i := 4) rfl)) (mts _ (List.mem_of_getElem? (i := 5) rfl)) hK 18 3 0 wRR_b3 wRR_3 rfl rfl (by decide) (Nat.le_of_ble_eq_true rfl) (by decide +kernel) dX1_copyFrom_27 (wRR y a (uc (uc R 2 (S 2)) 3 (S 3)) b S) wRR_s3 ?_
    refine z_aload_n mx mb dX1_copyFrom_30 rfl 1 rfl ?_
    refine z_get (C := RX1) (T := TX1) (N := 6) mx mb mts (in_X1_copyFrom_X1) mo hK zgw 16 wRR_b1 rfl 2 (by decide) (mts _ (List.mem_of_getElem? (i := 7) rfl)) (fun _ h9 => h9) rfl dX1_copyFrom_31 ?_
    refine z_iconst mx mb dX1_copyFrom_34 ?_
    refine z_aload_n mx mb dX1_copyFrom_35 rfl 0 rfl ?_
    refine z_get (C := RX1) (T := TX1) (N := 6) mx mb mts (in_X1_copyFrom_X1) mo hK zgw 1 wRR_1 rfl 2 (by decide) (mts _ (List.mem_of_getElem? (i := 7) rfl)) (fun _ h9 => h9) rfl dX1_copyFrom_36 ?_
    refine z_iconst mx mb dX1_copyFrom_39 ?_
    refine z_bipush mx mb dX1_copyFrom_40 (by decide +kernel) ?_
    refine z_acopy mx mb mml mo (mts _ (List.mem_of_getElem? (i := 2) rfl)) (mts _ (List.mem_of_getElem? (i := 3) rfl)) (mts _ (List.mem_of_getElem? (i := 4) rfl)) (mts _ (List.mem_of_getElem? (i := 5) rfl)) hK 19 4 0 wRR_b4 wRR_4 rfl rfl (by decide) (Nat.le_of_ble_eq_true rfl) (by decide +kernel) dX1_copyFrom_42 (wRR y a (uc (uc (uc R 2 (S 2)) 3 (S 3)) 4 (S 4)) b S) wRR_s4 ?_
    refine z_aload_n mx mb dX1_copyFrom_45 rfl 1 rfl ?_
    refine z_get (C := RX1) (T := TX1) (N := 6) mx mb mts (in_X1_copyFrom_X1) mo hK zgw 16 wRR_b1 rfl 3 (by decide) (mts _ (List.mem_of_getElem? (i := 8) rfl)) (fun _ h9 => h9) rfl dX1_copyFrom_46 ?_
    refine z_iconst mx mb dX1_copyFrom_49 ?_
    refine z_aload_n mx mb dX1_copyFrom_50 rfl 0 rfl ?_
    refine z_get (C := RX1) (T := TX1) (N := 6) mx mb mts (in_X1_copyFrom_X1) mo hK zgw 1 wRR_1 rfl 3 (by decide) (mts _ (List.mem_of_getElem? (i := 8) rfl)) (fun _ h9 => h9) rfl dX1_copyFrom_51 ?_
    refine z_iconst mx mb dX1_copyFrom_54 ?_
    refine z_bipush mx mb dX1_copyFrom_55 (by decide +kernel) ?_
    refine z_acopy mx mb mml mo (mts _ (List.mem_of_getElem? (i := 2) rfl)) (mts _ (List.mem_of_getElem? (i := 3) rfl)) (mts _ (List.mem_of_getElem? (i := 4) rfl)) (mts _ (List.mem_of_getElem? (i := 5) rfl)) hK 20 5 0 wRR_b5 wRR_5 rfl rfl (by decide) (Nat.le_of_ble_eq_true rfl) (by decide +kernel) dX1_copyFrom_57 (wRR y a (uc (uc (uc (uc R 2 (S 2)) 3 (S 3)) 4 (S 4)) 5 (S 5)) b S) wRR_s5 ?_
    refine z_aload_n mx mb dX1_copyFrom_60 rfl 0 rfl ?_
    refine z_aload_n mx mb dX1_copyFrom_61 rfl 1 rfl ?_
    refine z_get (C := RX1) (T := TX1) (N := 6) mx mb mts (in_X1_copyFrom_X1) mo hK zgw 16 wRR_b1 rfl 4 (by decide) (mts _ (List.mem_of_getElem? (i := 9) rfl)) (fun _ h9 => h9) rfl dX1_copyFrom_62 ?_
    refine z_put (ty := .int) (C := RX1) (T := TX1) (N := 6) mx mb mts (in_X1_copyFrom_X1) tyX1_ok nmX1 mo hK 1 wRR_1 rfl 4 (by decide) (mts _ (List.mem_of_getElem? (i := 9) rfl)) (fun _ h9 => h9) rfl (by decide +kernel) rfl rfl (Nat.le_of_ble_eq_true rfl) dX1_copyFrom_65 (wRR y a (uc (uc (uc (uc (uc R 2 (S 2)) 3 (S 3)) 4 (S 4)) 5 (S 5)) 1 (zu ((uc (uc (uc (uc R 2 (S 2)) 3 (S 3)) 4 (S 4)) 5 (S 5)) 1) 0 (S 1 0))) b S) wRR_s1_0 ?_
    refine z_aload_n mx mb dX1_copyFrom_68 rfl 0 rfl ?_
    refine z_aload_n mx mb dX1_copyFrom_69 rfl 1 rfl ?_
    refine z_get (C := RX1) (T := TX1) (N := 6) mx mb mts (in_X1_copyFrom_X1) mo hK zgw 16 wRR_b1 rfl 5 (by decide) (mts _ (List.mem_of_getElem? (i := 10) rfl)) (fun _ h9 => h9) rfl dX1_copyFrom_70 ?_
    refine z_put (ty := .int) (C := RX1) (T := TX1) (N := 6) mx mb mts (in_X1_copyFrom_X1) tyX1_ok nmX1 mo hK 1 wRR_1 rfl 5 (by decide) (mts _ (List.mem_of_getElem? (i := 10) rfl)) (fun _ h9 => h9) rfl (by decide +kernel) rfl rfl (Nat.le_of_ble_eq_true rfl) dX1_copyFrom_73 (wRR y a (uc (uc (uc (uc (uc (uc R 2 (S 2)) 3 (S 3)) 4 (S 4)) 5 (S 5)) 1 (zu ((uc (uc (uc (uc R 2 (S 2)) 3 (S 3)) 4 (S 4)) 5 (S 5)) 1) 0 (S 1 0))) 1 (zu ((uc (uc (uc (uc (uc R 2 (S 2)) 3 (S 3)) 4 (S 4)) 5 (S 5)) 1 (zu ((uc (uc (uc (uc R 2 (S 2)) 3 (S 3)) 4 (S 4)) 5 (S 5)) 1) 0 (S 1 0))) 1) 1 (S 1 1))) b S) wRR_s1_1 ?_
    rw [hQ]
    exact z_retV mx mb mr mlk hK (uc (uc (uc (uc (uc (uc R 2 (S 2)) 3 (S 3)) 4 (S 4)) 5 (S 5)) 1 (zu ((uc (uc (uc (uc R 2 (S 2)) 3 (S 3)) 4 (S 4)) 5 (S 5)) 1) 0 (S 1 0))) 1 (zu ((uc (uc (uc (uc (uc R 2 (S 2)) 3 (S 3)) 4 (S 4)) 5 (S 5)) 1 (zu ((uc (uc (uc (uc R 2 (S 2)) 3 (S 3)) 4 (S 4)) 5 (S 5)) 1) 0 (S 1 0))) 1) 1 (S 1 1))) (by exact ⟨fun j hj => by rw [uc_n (by omega), uc_n (by omega), uc_n (by omega), uc_n (by omega), uc_n (by omega), uc_n (by omega)], ⟨rfl, rfl⟩, rfl, rfl, rfl, rfl⟩) rfl dX1_copyFrom_76
  subst hQ
  subst hw0
  exact hstart
