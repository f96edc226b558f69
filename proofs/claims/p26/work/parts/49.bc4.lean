theorem in_X4_ticksToStation_X0 : ∀ w ∈ wsX00, w ∈ wsX4_ticksToStation := by decide +kernel
theorem in_X4_ticksToStation_X3 : ∀ w ∈ wsX30, w ∈ wsX4_ticksToStation := by decide +kernel
theorem in_X4_ticksToStation_X4 : ∀ w ∈ wsX40, w ∈ wsX4_ticksToStation := by decide +kernel
set_option maxRecDepth 100000 in
set_option maxHeartbeats 4000000 in
theorem c_X4_ticksToStation (l : Launch) (D : va_G) (sz : Nat) (y : Nat → ClassId) (o : Nat → Nat) (a : Nat → Nat → Nat) (S : Nat → Nat → Int → Int) (tb : Nat → Nat) (x : Int → Int) (ln sc : Int) (f : Int → Int) (t : Int) (hR : Rel f (S 0)) (hI : Inv 100000 f) (kp : Kp f) (ht : 0 ≤ t ∧ t < f 2) : Met l yX4_ticksToStation wsX4_ticksToStation ({ frames := 5, cells := 0, slots := 0, locals := 110 } : Room) (zPw D vwCl (zT y) (wBq y o a S tb x ln sc (sav a) p6) sz [.ref (o 0), .int (iZ t)]) (va_Qi (fun (r : Int32) (S' : Nat → Nat → Int → Int) => r = iZ (toStation f t) ∧ ∀ j : Nat, j ≠ 1 → S' j = S j) (zB D vwCl (zT y) (wBq y o a S tb x ln sc (sav a) p6) sz (fun S' : Nat → Nat → Int → Int => wBq y o a S' tb x ln sc (sav a) p6)) (va_A (wBq y o a S tb x ln sc (sav a) p6) sz)) 0 0 (va_A (wBq y o a S tb x ln sc (sav a) p6) sz) := by
  refine z_headW (cc := cX4_ticksToStation) (maxL := 4) (ret := (some .int)) [(0, .ref (o 0)), (1, .int (iZ t))] rfl (Nat.le_of_ble_eq_true rfl) (by decide +kernel) rfl ?_
  intro pp ee ss mm below meth cd mx mb mr mml mo mts mlk hK hname hsz hA
  generalize ([.ref (o 0), .int (iZ t)] : List Value).toArray = args at mts ⊢
  obtain ⟨wst, hw0⟩ : ∃ wst, wst = wBq y o a S tb x ln sc (sav a) p6 := ⟨_, rfl⟩
  have hA : ∀ q, ss.heap.size ≤ q → va_A wst sz q := by rw [hw0]; exact hA
  obtain ⟨Q, hQ⟩ : ∃ Q, Q = MQ below (va_Qi (fun (r : Int32) (S' : Nat → Nat → Int → Int) => r = iZ (toStation f t) ∧ ∀ j : Nat, j ≠ 1 → S' j = S j) (zB D vwCl (zT y) wst sz (fun S' : Nat → Nat → Int → Int => wBq y o a S' tb x ln sc (sav a) p6)) (va_A wst sz)) args ss 0 0 (va_A wst sz) := ⟨_, rfl⟩
  have hstart : Gz pp l ee ({ frames := 5, cells := 0, slots := 0, locals := 110 } : Room) ss mm args below meth cd 4 0 0 Q (Zw D vwCl (va_A wst sz) ss (wBq y o a S tb x ln sc (sav a) p6)) 0 [(0, .ref (o 0)), (1, .int (iZ t))] [] := by
    obtain ⟨hW, hN, hT⟩ := (Inv_Jy hI).f
    obtain ⟨w0, w1, w2, w3, w4, w5, w6⟩ := id hW
    obtain ⟨n3, n4, n5, n6, n7, n8, n9, n10⟩ := id hN
    obtain ⟨⟨r0, r1, r2, r3, r4⟩, rc, rb, ⟨s0, s1, s2, s3⟩, rt, rl⟩ := id hR
    obtain ⟨n, hn⟩ : ∃ n : Nat, t = (n : Int) := ⟨t.toNat, by omega⟩
    have hn4 : (n : Int) < f 2 ∧ n < 4 := by omega
    have tn := hT (n : Int) (by omega) (by omega)
    obtain ⟨T1, T2, T3, T5, T7⟩ := tn
    refine z_aload_n mx mb dX4_ticksToStation_0 rfl 0 rfl ?_
    refine z_iload_n mx mb dX4_ticksToStation_1 rfl 1 rfl ?_
    refine z_callV0 (As := [.int (iZ t)]) (rest := []) ⟨mx, mb, mml, mo, mts⟩ hK hA (fun sz => c_X4_requireTrain l D sz y o a S tb x ln sc f t hR hI kp (by omega)) (cwV 1 mts gX4_ticksToStation_X4_requireTrain rfl rfl rfl (by decide +kernel) ⟨Nat.le_of_ble_eq_true rfl, Nat.le_of_ble_eq_true rfl⟩) 0 wB_0 rfl rfl rfl rfl (Nat.le_of_ble_eq_true rfl) ⟨Nat.zero_le _, Nat.zero_le _⟩ dX4_ticksToStation_2 (fun u2 hu2 => ?_)
    show Gz pp l ee ({ frames := 5, cells := 0, slots := 0, locals := 110 } : Room) ss mm args below meth cd 4 0 0 Q (Zw D vwCl (va_A wst sz) ss (wBq y o a S tb x ln sc (sav a) p6)) 5 [(0, .ref (o 0)), (1, .int (iZ t))] []
    refine z_aload_n mx mb dX4_ticksToStation_5 rfl 0 rfl ?_
    refine z_get (C := RX4) (T := TX4) (N := 5) mx mb mts (in_X4_ticksToStation_X4) mo hK zgw 0 wB_0 rfl 1 (by decide) (mts _ (List.mem_of_getElem? (i := 1) rfl)) (fun _ h9 => h9) rfl dX4_ticksToStation_6 ?_
    refine z_aload_n mx mb dX4_ticksToStation_9 rfl 0 rfl ?_
    refine z_get (C := RX4) (T := TX4) (N := 5) mx mb mts (in_X4_ticksToStation_X4) mo hK zgw 0 wB_0 rfl 0 (by decide) (mts _ (List.mem_of_getElem? (i := 2) rfl)) (fun _ h9 => h9) rfl dX4_ticksToStation_10 ?_
    refine z_copy (i := 1) (j := 0) (ps := [2, 3, 4, 5]) (rest := []) (by decide) (by decide) (by decide) ⟨mx, mb, mml, mo, mts⟩ hK hA (fun sz => c_X0_copyFrom l D sz y (a 1) (S 1) (a 0) (S 0) f hR hW) (cwV 1 mts gX4_ticksToStation_X0_copyFrom rfl rfl rfl (by decide +kernel) ⟨Nat.le_of_ble_eq_true rfl, Nat.le_of_ble_eq_true rfl⟩) (Nat.le_of_ble_eq_true rfl) ⟨Nat.zero_le _, Nat.zero_le _⟩ dX4_ticksToStation_13 (fun u13 hu13 => ?_)
    show Gz pp l ee ({ frames := 5, cells := 0, slots := 0, locals := 110 } : Room) ss mm args below meth cd 4 0 0 Q (Zw D vwCl (va_A wst sz) ss (wBq y o a (uR S 1 u13) tb x ln sc (sav a) p6)) 16 [(0, .ref (o 0)), (1, .int (iZ t))] []
    obtain ⟨S1, eS1⟩ : ∃ z, z = uR S 1 u13 := ⟨_, rfl⟩
    rw [← eS1]
    have q1 : S1 1 = u13 := (by rw [eS1, uR_s])
    have q0 : ∀ j : Nat, j ≠ 1 → S1 j = S j := fun j hj => (by rw [eS1, uR_n hj])
    have hr1 : Rel f (S1 1) := (by rw [q1]; exact hu13)
    refine z_aload_n mx mb dX4_ticksToStation_16 rfl 0 rfl ?_
    refine z_get (C := RX4) (T := TX4) (N := 5) mx mb mts (in_X4_ticksToStation_X4) mo hK zgw 0 wB_0 rfl 0 (by decide) (mts _ (List.mem_of_getElem? (i := 2) rfl)) (fun _ h9 => h9) rfl dX4_ticksToStation_17 ?_
    refine z_get (C := RX0) (T := TX0) (N := 9) mx mb mts (in_X4_ticksToStation_X0) mo hK zgw (4 + 15 * 0 + 0) ((wB_get 0 0 (by omega) (by omega)).trans wR_0) rfl 1 (by decide) (mts _ (List.mem_of_getElem? (i := 3) rfl)) (fun _ h9 => h9) rfl dX4_ticksToStation_20 ?_
    refine z_iload_n mx mb dX4_ticksToStation_23 rfl 1 rfl ?_
    refine z_top (show t = (n : Int) from by exact hn) ?_
    refine z_aald (i := n) mx mb hK zgw (4 + 15 * 0 + 6) 1 ((wB_get 0 6 (by omega) (by omega)).trans wR_6) rfl (by decide) (by omega) dX4_ticksToStation_24 ?_
    refine z_get (C := RX3) (T := TX3) (N := 8) mx mb mts (in_X4_ticksToStation_X3) mo hK zgw (4 + 15 * 0 + (8 + n)) ((wB_get 0 (8 + n) (by omega) (by omega)).trans (wR_t (by omega))) rfl 7 (by decide) (mts _ (List.mem_of_getElem? (i := 4) rfl)) (fun _ h9 => h9) rfl dX4_ticksToStation_25 ?_
    refine z_top (show (S1 0) (8 + n) 7 = f (79 + 8 * (n : Int) + 7) from by rw [q0 0 (by omega)]; exact rt n hn4.1 7 (by omega) (by omega)) ?_
    refine z_istore_n mx mb dX4_ticksToStation_28 rfl (by decide) [(2, .int (iZ (f (79 + 8 * (n : Int) + 7)))), (0, .ref (o 0)), (1, .int (iZ t))] rfl ?_
    refine z_iconst mx mb dX4_ticksToStation_29 ?_
    refine z_istore_n mx mb dX4_ticksToStation_30 rfl (by decide) [(3, .int (iZ 1)), (2, .int (iZ (f (79 + 8 * (n : Int) + 7)))), (0, .ref (o 0)), (1, .int (iZ t))] rfl ?_
    have lp31 : ∀ (nn : Nat) (i : Nat) (Si : Nat → Nat → Int → Int) (x3 : Int), 2000 - i < nn → (i ≤ 2000) → (x3 = (i : Int) + 1) → (Rel (ticks f i) (Si 1)) → (∀ j : Nat, j ≠ 1 → Si j = S j) → (∀ j : Nat, j ≤ i → ticks f j (79 + 8 * (n : Int) + 7) = f (79 + 8 * (n : Int) + 7)) → Gz pp l ee ({ frames := 5, cells := 0, slots := 0, locals := 110 } : Room) ss mm args below meth cd 4 0 0 Q (Zw D vwCl (va_A wst sz) ss (wBq y o a Si tb x ln sc (sav a) p6)) 31 [(0, .ref (o 0)), (1, .int (iZ t)), (2, .int (iZ (f (79 + 8 * (n : Int) + 7)))), (3, .int (iZ x3))] [] := by
      intro nn
      induction nn with
      | zero => exact fun i Si x3 hm => absurd hm (Nat.not_lt_zero _)
      | succ nn ih =>
        intro i Si x3 hm hi e3 hRi hso hl
        have ix : InvX (ticks f i) := ticks_InvX (Inv_le hI (by omega)) i (by omega)
        have kx : Kp (ticks f i) := ticks_keep hI kp i (by omega)
        refine z_iload_n mx mb dX4_ticksToStation_31 rfl 3 rfl ?_
        refine z_sipush mx mb dX4_ticksToStation_32 (by decide +kernel) ?_
        refine z_icmp_gt (tgt := 69) mx mb (by omega) (by omega) dX4_ticksToStation_35 (by decide) (fun c35 => ?_) (fun c35 => ?_)
        · skip
          have hi2 : i = 2000 := by omega
          rw [hi2] at hl
          refine z_iconst mx mb dX4_ticksToStation_69 ?_
          rw [hQ]
          exact z_retI mx mb mr mlk hK Si (by exact ⟨by rw [hn, toStation_miss hl], hso⟩) rfl dX4_ticksToStation_70
        · skip
          refine z_aload_n mx mb dX4_ticksToStation_38 rfl 0 rfl ?_
          refine z_get (C := RX4) (T := TX4) (N := 5) mx mb mts (in_X4_ticksToStation_X4) mo hK zgw 0 wB_0 rfl 1 (by decide) (mts _ (List.mem_of_getElem? (i := 1) rfl)) (fun _ h9 => h9) rfl dX4_ticksToStation_39 ?_
          refine z_rideV (j := 1) (As := []) (rest := []) (by omega) ⟨mx, mb, mml, mo, mts⟩ hK hA (fun sz => c_X0_tick l D sz y (a 1) (Si 1) (ticks f i)  (by assumption) (by assumption) (by assumption)) (cwV 0 mts gX4_ticksToStation_X0_tick rfl rfl rfl (by decide +kernel) ⟨Nat.le_of_ble_eq_true rfl, Nat.le_of_ble_eq_true rfl⟩) rfl rfl (Nat.le_of_ble_eq_true rfl) ⟨Nat.zero_le _, Nat.zero_le _⟩ dX4_ticksToStation_42 (fun u42 hu42 => ?_)
          have hu42 : Rel (tick (ticks f i)) u42 := hu42
          show Gz pp l ee ({ frames := 5, cells := 0, slots := 0, locals := 110 } : Room) ss mm args below meth cd 4 0 0 Q (Zw D vwCl (va_A wst sz) ss (wBq y o a (uR Si 1 u42) tb x ln sc (sav a) p6)) 45 [(0, .ref (o 0)), (1, .int (iZ t)), (2, .int (iZ (f (79 + 8 * (n : Int) + 7)))), (3, .int (iZ x3))] []
          obtain ⟨S3, eS3⟩ : ∃ z, z = uR Si 1 u42 := ⟨_, rfl⟩
          rw [← eS3]
          have z1 : S3 1 = u42 := (by rw [eS3, uR_s])
          have hr3 : Rel (ticks f (i + 1)) (S3 1) := (by rw [z1]; exact hu42)
          have z0 : ∀ j : Nat, j ≠ 1 → S3 j = S j := fun j hj => (by rw [eS3, uR_n hj]; exact hso j hj)
          obtain ⟨y1, y2⟩ := ticks_inv hI (i + 1) (by omega)
          have y2b := y2 2 (by omega) (by omega) (by omega) (by omega) (by omega) (by omega)
          obtain ⟨V1, V2, V3, V5, V7⟩ := (Inv_Jy y1).f.2.2 (n : Int) (by omega) (by omega)
          refine z_aload_n mx mb dX4_ticksToStation_45 rfl 0 rfl ?_
          refine z_get (C := RX4) (T := TX4) (N := 5) mx mb mts (in_X4_ticksToStation_X4) mo hK zgw 0 wB_0 rfl 1 (by decide) (mts _ (List.mem_of_getElem? (i := 1) rfl)) (fun _ h9 => h9) rfl dX4_ticksToStation_46 ?_
          refine z_get (C := RX0) (T := TX0) (N := 9) mx mb mts (in_X4_ticksToStation_X0) mo hK zgw (4 + 15 * 1 + 0) ((wB_get 1 0 (by omega) (by omega)).trans wR_0) rfl 1 (by decide) (mts _ (List.mem_of_getElem? (i := 3) rfl)) (fun _ h9 => h9) rfl dX4_ticksToStation_49 ?_
          refine z_iload_n mx mb dX4_ticksToStation_52 rfl 1 rfl ?_
          refine z_top (show t = (n : Int) from by exact hn) ?_
          refine z_aald (i := n) mx mb hK zgw (4 + 15 * 1 + 6) 1 ((wB_get 1 6 (by omega) (by omega)).trans wR_6) rfl (by decide) (by omega) dX4_ticksToStation_53 ?_
          refine z_get (C := RX3) (T := TX3) (N := 8) mx mb mts (in_X4_ticksToStation_X3) mo hK zgw (4 + 15 * 1 + (8 + n)) ((wB_get 1 (8 + n) (by omega) (by omega)).trans (wR_t (by omega))) rfl 7 (by decide) (mts _ (List.mem_of_getElem? (i := 4) rfl)) (fun _ h9 => h9) rfl dX4_ticksToStation_54 ?_
          refine z_top (show (S3 1) (8 + n) 7 = ticks f (i + 1) (79 + 8 * (n : Int) + 7) from by exact hr3.2.2.2.2.1 n (by rw [y2b]; exact hn4.1) 7 (by omega) (by omega)) ?_
          refine z_iload_n mx mb dX4_ticksToStation_57 rfl 2 rfl ?_
          refine z_icmp_le (tgt := 63) mx mb (by omega) (by omega) dX4_ticksToStation_58 (by decide) (fun c58 => ?_) (fun c58 => ?_)
          · skip
            refine z_iinc mx mb dX4_ticksToStation_63 3 rfl (by decide) [(3, .int (iZ (x3 + 1))), (0, .ref (o 0)), (1, .int (iZ t)), (2, .int (iZ (f (79 + 8 * (n : Int) + 7))))] rfl ?_
            refine z_goto (tgt := 31) mx mb dX4_ticksToStation_66 (by decide) ?_
            refine z_lv [1, 2, 3, 0] rfl ?_
            exact ih (i + 1) _ _ (by omega) (by omega) (by omega) (by exact hr3) (by exact z0) (by exact sta_next ix (by omega) hl c58)
          · skip
            refine z_iload_n mx mb dX4_ticksToStation_61 rfl 3 rfl ?_
            rw [hQ]
            exact z_retI mx mb mr mlk hK S3 (by exact ⟨by rw [e3, hn, toStation_hit hl (by omega) (by omega)]; rfl, z0⟩) rfl dX4_ticksToStation_62
    refine z_lv [2, 3, 1, 0] rfl ?_
    exact lp31 _ 0 S1 1 (Nat.lt_succ_self _) (by omega) (by rfl) (by exact hr1) (by exact q0) (by intro j hj; rw [show j = 0 by omega]; rfl)
  subst hQ
  subst hw0
  exact hstart
