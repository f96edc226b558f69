theorem in_X4_nextValley_X0 : ∀ w ∈ wsX00, w ∈ wsX4_nextValley := by decide +kernel
theorem in_X4_nextValley_X4 : ∀ w ∈ wsX40, w ∈ wsX4_nextValley := by decide +kernel
set_option maxRecDepth 100000 in
set_option maxHeartbeats 4000000 in
theorem c_X4_nextValley (l : Launch) (D : va_G) (sz : Nat) (y : Nat → ClassId) (o : Nat → Nat) (a : Nat → Nat → Nat) (S : Nat → Nat → Int → Int) (tb : Nat → Nat) (x : Int → Int) (ln sc : Int) (f : Int → Int) (fr mo9 : Int) (hR : Rel f (S 0)) (hI : Inv 100000 f) (kp : Kp f) (hfr : 0 ≤ fr ∧ fr ≤ 20) (hmo : 0 ≤ mo9 ∧ mo9 ≤ 2000) : Met l yX4_nextValley wsX4_nextValley ({ frames := 5, cells := 0, slots := 0, locals := 110 } : Room) (zPw D vwCl (zT y) (wBq y o a S tb x ln sc (sav a) p6) sz [.ref (o 0), .int (iZ fr), .int (iZ mo9)]) (va_Qi (fun (r : Int32) (S' : Nat → Nat → Int → Int) => r = iZ (toValley (zu f 4 fr) mo9) ∧ ∀ j : Nat, j ≠ 1 → S' j = S j) (zB D vwCl (zT y) (wBq y o a S tb x ln sc (sav a) p6) sz (fun S' : Nat → Nat → Int → Int => wBq y o a S' tb x ln sc (sav a) p6)) (va_A (wBq y o a S tb x ln sc (sav a) p6) sz)) 0 0 (va_A (wBq y o a S tb x ln sc (sav a) p6) sz) := by
  refine z_headW (cc := cX4_nextValley) (maxL := 5) (ret := (some .int)) [(0, .ref (o 0)), (1, .int (iZ fr)), (2, .int (iZ mo9))] rfl (Nat.le_of_ble_eq_true rfl) (by decide +kernel) rfl ?_
  intro pp ee ss mm below meth cd mx mb mr mml mo mts mlk hK hname hsz hA
  generalize ([.ref (o 0), .int (iZ fr), .int (iZ mo9)] : List Value).toArray = args at mts ⊢
  obtain ⟨wst, hw0⟩ : ∃ wst, wst = wBq y o a S tb x ln sc (sav a) p6 := ⟨_, rfl⟩
  have hA : ∀ q, ss.heap.size ≤ q → va_A wst sz q := by rw [hw0]; exact hA
  obtain ⟨Q, hQ⟩ : ∃ Q, Q = MQ below (va_Qi (fun (r : Int32) (S' : Nat → Nat → Int → Int) => r = iZ (toValley (zu f 4 fr) mo9) ∧ ∀ j : Nat, j ≠ 1 → S' j = S j) (zB D vwCl (zT y) wst sz (fun S' : Nat → Nat → Int → Int => wBq y o a S' tb x ln sc (sav a) p6)) (va_A wst sz)) args ss 0 0 (va_A wst sz) := ⟨_, rfl⟩
  have hstart : Gz pp l ee ({ frames := 5, cells := 0, slots := 0, locals := 110 } : Room) ss mm args below meth cd 5 0 0 Q (Zw D vwCl (va_A wst sz) ss (wBq y o a S tb x ln sc (sav a) p6)) 0 [(0, .ref (o 0)), (1, .int (iZ fr)), (2, .int (iZ mo9))] [] := by
    obtain ⟨hW, hN, hT⟩ := (Inv_Jy hI).f
    obtain ⟨w0, w1, w2, w3, w4, w5, w6⟩ := id hW
    obtain ⟨n3, n4, n5, n6, n7, n8, n9, n10⟩ := id hN
    obtain ⟨⟨r0, r1, r2, r3, r4⟩, rc, rb, ⟨s0, s1, s2, s3⟩, rt, rl⟩ := id hR
    have iF := Inv_zu4 hI hfr
    obtain ⟨hWF, hNF, -⟩ := (Inv_Jy iF).f
    have kF : Kp (zu f 4 fr) := Kp_off kp (Inv_Jy hI) (zu_n (by omega)) (zu_n (by omega)) (fun i _ _ => zu_n (by omega)) (fun i _ _ => zu_n (by omega)) (fun i _ _ => zu_n (by omega))
    refine z_aload_n mx mb dX4_nextValley_0 rfl 0 rfl ?_
    refine z_get (C := RX4) (T := TX4) (N := 5) mx mb mts (in_X4_nextValley_X4) mo hK zgw 0 wB_0 rfl 1 (by decide) (mts _ (List.mem_of_getElem? (i := 1) rfl)) (fun _ h9 => h9) rfl dX4_nextValley_1 ?_
    refine z_aload_n mx mb dX4_nextValley_4 rfl 0 rfl ?_
    refine z_get (C := RX4) (T := TX4) (N := 5) mx mb mts (in_X4_nextValley_X4) mo hK zgw 0 wB_0 rfl 0 (by decide) (mts _ (List.mem_of_getElem? (i := 2) rfl)) (fun _ h9 => h9) rfl dX4_nextValley_5 ?_
    refine z_copy (i := 1) (j := 0) (ps := [2, 3, 4, 5]) (rest := []) (by decide) (by decide) (by decide) ⟨mx, mb, mml, mo, mts⟩ hK hA (fun sz => c_X0_copyFrom l D sz y (a 1) (S 1) (a 0) (S 0) f hR hW) (cwV 1 mts gX4_nextValley_X0_copyFrom rfl rfl rfl (by decide +kernel) ⟨Nat.le_of_ble_eq_true rfl, Nat.le_of_ble_eq_true rfl⟩) (Nat.le_of_ble_eq_true rfl) ⟨Nat.zero_le _, Nat.zero_le _⟩ dX4_nextValley_8 (fun u8 hu8 => ?_)
    show Gz pp l ee ({ frames := 5, cells := 0, slots := 0, locals := 110 } : Room) ss mm args below meth cd 5 0 0 Q (Zw D vwCl (va_A wst sz) ss (wBq y o a (uR S 1 u8) tb x ln sc (sav a) p6)) 11 [(0, .ref (o 0)), (1, .int (iZ fr)), (2, .int (iZ mo9))] []
    obtain ⟨S1, eS1⟩ : ∃ z, z = uR S 1 u8 := ⟨_, rfl⟩
    rw [← eS1]
    have q1 : S1 1 = u8 := (by rw [eS1, uR_s])
    have q0 : ∀ j : Nat, j ≠ 1 → S1 j = S j := fun j hj => (by rw [eS1, uR_n hj])
    have hr1 : Rel f (S1 1) := (by rw [q1]; exact hu8)
    refine z_aload_n mx mb dX4_nextValley_11 rfl 0 rfl ?_
    refine z_get (C := RX4) (T := TX4) (N := 5) mx mb mts (in_X4_nextValley_X4) mo hK zgw 0 wB_0 rfl 1 (by decide) (mts _ (List.mem_of_getElem? (i := 1) rfl)) (fun _ h9 => h9) rfl dX4_nextValley_12 ?_
    refine z_get (C := RX0) (T := TX0) (N := 9) mx mb mts (in_X4_nextValley_X0) mo hK zgw (4 + 15 * 1 + 0) ((wB_get 1 0 (by omega) (by omega)).trans wR_0) rfl 2 (by decide) (mts _ (List.mem_of_getElem? (i := 3) rfl)) (fun _ h9 => h9) rfl dX4_nextValley_15 ?_
    refine z_iconst mx mb dX4_nextValley_18 ?_
    refine z_iload_n mx mb dX4_nextValley_19 rfl 1 rfl ?_
    refine z_iast mx mb hK (4 + 15 * 1 + 7) 0 ((wB_get 1 7 (by omega) (by omega)).trans wR_7) rfl (by decide) (by omega) dX4_nextValley_20 (wBq y o a (uR S1 1 (uc (S1 1) 7 (zu ((S1 1) 7) 0 fr))) tb x ln sc (sav a) p6) (wB_set 1 7 (by omega) (by omega) wR_s7) ?_
    obtain ⟨S2, eS2⟩ : ∃ z, z = uR S1 1 (uc (S1 1) 7 (zu ((S1 1) 7) 0 fr)) := ⟨_, rfl⟩
    rw [← eS2]
    have t1 : S2 1 = uc (S1 1) 7 (zu (S1 1 7) 0 fr) := (by rw [eS2, uR_s])
    have t0 : ∀ j : Nat, j ≠ 1 → S2 j = S j := fun j hj => (by rw [eS2, uR_n hj]; exact q0 j hj)
    have hr2 : Rel (zu f 4 fr) (S2 1) := (by rw [t1]; exact rel_set hr1 hW (w := 0) (by omega))
    have F2 : zu f 4 fr 2 = f 2 := zu_n (by omega)
    have lr := lyn_rng (zu f 4 fr) (zu f 4 fr 2).toNat
    refine z_aload_n mx mb dX4_nextValley_21 rfl 0 rfl ?_
    refine z_get (C := RX4) (T := TX4) (N := 5) mx mb mts (in_X4_nextValley_X4) mo hK zgw 0 wB_0 rfl 1 (by decide) (mts _ (List.mem_of_getElem? (i := 1) rfl)) (fun _ h9 => h9) rfl dX4_nextValley_22 ?_
    refine z_callP (As := []) (rest := []) ⟨mx, mb, mml, mo, mts⟩ hK zgw (c_X0_lyingTrains l D y (a 1) (S2 1) (zu f 4 fr)  (by assumption) (by assumption)) (cwV 0 mts gX4_nextValley_X0_lyingTrains rfl rfl rfl (by decide +kernel) ⟨Nat.le_of_ble_eq_true rfl, Nat.le_of_ble_eq_true rfl⟩) (wB_in 1 (by omega)) (4 + 15 * 1 + 0) ((wB_get 1 0 (by omega) (by omega)).trans wR_0) rfl rfl rfl rfl (Nat.le_of_ble_eq_true rfl) ⟨Nat.zero_le _, Nat.zero_le _⟩ dX4_nextValley_25 ?_
    refine z_istore_n mx mb dX4_nextValley_28 rfl (by decide) [(3, .int (iZ (lyn (zu f 4 fr) ((zu f 4 fr) 2).toNat))), (0, .ref (o 0)), (1, .int (iZ fr)), (2, .int (iZ mo9))] rfl ?_
    refine z_iconst mx mb dX4_nextValley_29 ?_
    refine z_istore mx mb dX4_nextValley_30 (by decide) [(4, .int (iZ 1)), (3, .int (iZ (lyn (zu f 4 fr) ((zu f 4 fr) 2).toNat))), (0, .ref (o 0)), (1, .int (iZ fr)), (2, .int (iZ mo9))] rfl ?_
    have lp32 : ∀ (nn : Nat) (i : Nat) (Si : Nat → Nat → Int → Int) (x4 : Int), mo9.toNat - i < nn → ((i : Int) ≤ mo9) → (x4 = (i : Int) + 1) → (Rel (ticks (zu f 4 fr) i) (Si 1)) → (∀ j : Nat, j ≠ 1 → Si j = S j) → (∀ j : Nat, j ≤ i → lyn (ticks (zu f 4 fr) j) (zu f 4 fr 2).toNat = lyn (zu f 4 fr) (zu f 4 fr 2).toNat) → Gz pp l ee ({ frames := 5, cells := 0, slots := 0, locals := 110 } : Room) ss mm args below meth cd 5 0 0 Q (Zw D vwCl (va_A wst sz) ss (wBq y o a Si tb x ln sc (sav a) p6)) 32 [(0, .ref (o 0)), (1, .int (iZ fr)), (2, .int (iZ mo9)), (3, .int (iZ (lyn (zu f 4 fr) ((zu f 4 fr) 2).toNat))), (4, .int (iZ x4))] [] := by
      intro nn
      induction nn with
      | zero => exact fun i Si x4 hm => absurd hm (Nat.not_lt_zero _)
      | succ nn ih =>
        intro i Si x4 hm hi e4 hRi hso hl
        have ix : InvX (ticks (zu f 4 fr) i) := ticks_InvX (Inv_le iF (by omega)) i (by omega)
        have kx : Kp (ticks (zu f 4 fr) i) := ticks_keep iF kF i (by omega)
        refine z_iload mx mb dX4_nextValley_32 4 rfl ?_
        refine z_iload_n mx mb dX4_nextValley_34 rfl 2 rfl ?_
        refine z_icmp_gt (tgt := 65) mx mb (by omega) (by omega) dX4_nextValley_35 (by decide) (fun c35 => ?_) (fun c35 => ?_)
        · skip
          refine z_iconst mx mb dX4_nextValley_65 ?_
          rw [hQ]
          exact z_retI mx mb mr mlk hK Si (by exact ⟨by rw [show mo9 = (i : Int) from by omega, toValley_miss hl], hso⟩) rfl dX4_nextValley_66
        · skip
          refine z_aload_n mx mb dX4_nextValley_38 rfl 0 rfl ?_
          refine z_get (C := RX4) (T := TX4) (N := 5) mx mb mts (in_X4_nextValley_X4) mo hK zgw 0 wB_0 rfl 1 (by decide) (mts _ (List.mem_of_getElem? (i := 1) rfl)) (fun _ h9 => h9) rfl dX4_nextValley_39 ?_
          refine z_rideV (j := 1) (As := []) (rest := []) (by omega) ⟨mx, mb, mml, mo, mts⟩ hK hA (fun sz => c_X0_tick l D sz y (a 1) (Si 1) (ticks (zu f 4 fr) i)  (by assumption) (by assumption) (by assumption)) (cwV 0 mts gX4_nextValley_X0_tick rfl rfl rfl (by decide +kernel) ⟨Nat.le_of_ble_eq_true rfl, Nat.le_of_ble_eq_true rfl⟩) rfl rfl (Nat.le_of_ble_eq_true rfl) ⟨Nat.zero_le _, Nat.zero_le _⟩ dX4_nextValley_42 (fun u42 hu42 => ?_)
          have hu42 : Rel (tick (ticks (zu f 4 fr) i)) u42 := hu42
          show Gz pp l ee ({ frames := 5, cells := 0, slots := 0, locals := 110 } : Room) ss mm args below meth cd 5 0 0 Q (Zw D vwCl (va_A wst sz) ss (wBq y o a (uR Si 1 u42) tb x ln sc (sav a) p6)) 45 [(0, .ref (o 0)), (1, .int (iZ fr)), (2, .int (iZ mo9)), (3, .int (iZ (lyn (zu f 4 fr) ((zu f 4 fr) 2).toNat))), (4, .int (iZ x4))] []
          obtain ⟨S3, eS3⟩ : ∃ z, z = uR Si 1 u42 := ⟨_, rfl⟩
          rw [← eS3]
          have z1 : S3 1 = u42 := (by rw [eS3, uR_s])
          have hr3 : Rel (ticks (zu f 4 fr) (i + 1)) (S3 1) := (by rw [z1]; exact hu42)
          have z0 : ∀ j : Nat, j ≠ 1 → S3 j = S j := fun j hj => (by rw [eS3, uR_n hj]; exact hso j hj)
          obtain ⟨y1, y2⟩ := ticks_inv iF (i + 1) (by omega)
          have wx := (Inv_Jy y1).f.1
          have l2 := lyn_rng (ticks (zu f 4 fr) (i + 1)) (zu f 4 fr 2).toNat
          refine z_aload_n mx mb dX4_nextValley_45 rfl 0 rfl ?_
          refine z_get (C := RX4) (T := TX4) (N := 5) mx mb mts (in_X4_nextValley_X4) mo hK zgw 0 wB_0 rfl 1 (by decide) (mts _ (List.mem_of_getElem? (i := 1) rfl)) (fun _ h9 => h9) rfl dX4_nextValley_46 ?_
          refine z_callP (As := []) (rest := []) ⟨mx, mb, mml, mo, mts⟩ hK zgw (c_X0_lyingTrains l D y (a 1) (S3 1) (ticks (zu f 4 fr) (i + 1))  (by assumption) (by assumption)) (cwV 0 mts gX4_nextValley_X0_lyingTrains rfl rfl rfl (by decide +kernel) ⟨Nat.le_of_ble_eq_true rfl, Nat.le_of_ble_eq_true rfl⟩) (wB_in 1 (by omega)) (4 + 15 * 1 + 0) ((wB_get 1 0 (by omega) (by omega)).trans wR_0) rfl rfl rfl rfl (Nat.le_of_ble_eq_true rfl) ⟨Nat.zero_le _, Nat.zero_le _⟩ dX4_nextValley_49 ?_
          refine z_top (show lyn (ticks (zu f 4 fr) (i + 1)) ((ticks (zu f 4 fr) (i + 1)) 2).toNat = lyn (ticks (zu f 4 fr) (i + 1)) (zu f 4 fr 2).toNat from by rw [y2 2 (by omega) (by omega) (by omega) (by omega) (by omega) (by omega)]) ?_
          refine z_iload_n mx mb dX4_nextValley_52 rfl 3 rfl ?_
          refine z_icmp_le (tgt := 59) mx mb (by omega) (by omega) dX4_nextValley_53 (by decide) (fun c53 => ?_) (fun c53 => ?_)
          · skip
            refine z_iinc mx mb dX4_nextValley_59 4 rfl (by decide) [(4, .int (iZ (x4 + 1))), (0, .ref (o 0)), (1, .int (iZ fr)), (2, .int (iZ mo9)), (3, .int (iZ (lyn (zu f 4 fr) ((zu f 4 fr) 2).toNat)))] rfl ?_
            refine z_goto (tgt := 32) mx mb dX4_nextValley_62 (by decide) ?_
            refine z_lv [1, 2, 3, 4, 0] rfl ?_
            exact ih (i + 1) _ _ (by omega) (by omega) (by omega) (by exact hr3) (by exact z0) (by exact lyn_next ix (by omega) hl c53)
          · skip
            refine z_iload mx mb dX4_nextValley_56 4 rfl ?_
            rw [hQ]
            exact z_retI mx mb mr mlk hK S3 (by exact ⟨by rw [e4, show mo9 = ((mo9.toNat : Nat) : Int) from by omega, toValley_hit hl (by omega) (by omega)]; rfl, z0⟩) rfl dX4_nextValley_58
    refine z_lv [2, 3, 4, 1, 0] rfl ?_
    exact lp32 _ 0 S2 1 (Nat.lt_succ_self _) (by omega) (by rfl) (by exact hr2) (by exact t0) (by intro j hj; rw [show j = 0 by omega]; rfl)
  subst hQ
  subst hw0
  exact hstart
