theorem in_X4_rescue_X0 : ∀ w ∈ wsX00, w ∈ wsX4_rescue := by decide +kernel
theorem in_X4_rescue_X1 : ∀ w ∈ wsX10, w ∈ wsX4_rescue := by decide +kernel
theorem in_X4_rescue_X3 : ∀ w ∈ wsX30, w ∈ wsX4_rescue := by decide +kernel
theorem in_X4_rescue_X4 : ∀ w ∈ wsX40, w ∈ wsX4_rescue := by decide +kernel
set_option maxRecDepth 100000 in
set_option maxHeartbeats 4000000 in
theorem c_X4_rescue (l : Launch) (D : va_G) (sz : Nat) (y : Nat → ClassId) (o : Nat → Nat) (a : Nat → Nat → Nat) (S : Nat → Nat → Int → Int) (tb : Nat → Nat) (x : Int → Int) (ln sc : Int) (f : Int → Int) (t : Int) (hR : Rel f (S 0)) (hI : Inv 100000 f) (kp : Kp f) (hsc : 0 ≤ sc ∧ sc ≤ 4) (ht : 0 ≤ t ∧ t < f 2) (hm : f (79 + 8 * t + 4) = 2) : Met l yX4_rescue wsX4_rescue ({ frames := 4, cells := 0, slots := 0, locals := 113 } : Room) (zPw D vwCl (zT y) (wBq y o a S tb x ln sc (sav a) p6) sz [.ref (o 0), .int (iZ t)]) (va_Qi (fun (r : Int32) (u : (Nat → Nat → Nat) × (Nat → Nat → Int → Int)) => r = iZ (f (79 + 8 * t + 0)) ∧ u.1 0 = a 0 ∧ u.1 1 = a 1 ∧ Rel (resT f t) (u.2 0) ∧ Rel f (u.2 (2 + (if sc = 4 then 3 else sc.toNat))) ∧ ∀ j : Nat, j < (if sc = 4 then 3 else sc.toNat) → u.2 (2 + j) = S (2 + j + (if sc = 4 then 1 else 0))) (zB D vwCl (zT y) (wBq y o a S tb x ln sc (sav a) p6) sz (fun u : (Nat → Nat → Nat) × (Nat → Nat → Int → Int) => wBq y o u.1 u.2 tb x ln (smS sc) (sav u.1) p6)) (va_A (wBq y o a S tb x ln sc (sav a) p6) sz)) 0 0 (va_A (wBq y o a S tb x ln sc (sav a) p6) sz) := by
  refine z_headW (cc := cX4_rescue) (maxL := 4) (ret := (some .int)) [(0, .ref (o 0)), (1, .int (iZ t))] rfl (Nat.le_of_ble_eq_true rfl) (by decide +kernel) rfl ?_
  intro pp ee ss mm below meth cd mx mb mr mml mo mts mlk hK hname hsz hA
  generalize ([.ref (o 0), .int (iZ t)] : List Value).toArray = args at mts ⊢
  obtain ⟨wst, hw0⟩ : ∃ wst, wst = wBq y o a S tb x ln sc (sav a) p6 := ⟨_, rfl⟩
  have hA : ∀ q, ss.heap.size ≤ q → va_A wst sz q := by rw [hw0]; exact hA
  obtain ⟨Q, hQ⟩ : ∃ Q, Q = MQ below (va_Qi (fun (r : Int32) (u : (Nat → Nat → Nat) × (Nat → Nat → Int → Int)) => r = iZ (f (79 + 8 * t + 0)) ∧ u.1 0 = a 0 ∧ u.1 1 = a 1 ∧ Rel (resT f t) (u.2 0) ∧ Rel f (u.2 (2 + (if sc = 4 then 3 else sc.toNat))) ∧ ∀ j : Nat, j < (if sc = 4 then 3 else sc.toNat) → u.2 (2 + j) = S (2 + j + (if sc = 4 then 1 else 0))) (zB D vwCl (zT y) wst sz (fun u : (Nat → Nat → Nat) × (Nat → Nat → Int → Int) => wBq y o u.1 u.2 tb x ln (smS sc) (sav u.1) p6)) (va_A wst sz)) args ss 0 0 (va_A wst sz) := ⟨_, rfl⟩
  have hstart : Gz pp l ee ({ frames := 4, cells := 0, slots := 0, locals := 113 } : Room) ss mm args below meth cd 4 0 0 Q (Zw D vwCl (va_A wst sz) ss (wBq y o a S tb x ln sc (sav a) p6)) 0 [(0, .ref (o 0)), (1, .int (iZ t))] [] := by
    obtain ⟨hW, hN, hT⟩ := (Inv_Jy hI).f
    obtain ⟨w0, w1, w2, w3, w4, w5, w6⟩ := id hW
    obtain ⟨n3, n4, n5, n6, n7, n8, n9, n10⟩ := id hN
    obtain ⟨⟨r0, r1, r2, r3, r4⟩, rc, rb, ⟨s0, s1, s2, s3⟩, rt, rl⟩ := id hR
    obtain ⟨kA, hG, hS9⟩ := id kp
    obtain ⟨n, hn⟩ : ∃ n : Nat, t = (n : Int) := ⟨t.toNat, by omega⟩
    have hn4 : (n : Int) < f 2 ∧ n < 4 := by omega
    have tn := hT (n : Int) (by omega) (by omega)
    obtain ⟨T1, T2, T3, T5, T7⟩ := tn
    have hm2 : f (79 + 8 * (n : Int) + 4) = 2 := (by rw [← hn]; exact hm)
    have cn := (w6 (n : Int) (by omega) (by omega)).1
    have bt := blockAt_rng hW cn
    refine z_aload_n mx mb dX4_rescue_0 rfl 0 rfl ?_
    refine z_iload_n mx mb dX4_rescue_1 rfl 1 rfl ?_
    refine z_callV0 (As := [.int (iZ t)]) (rest := []) ⟨mx, mb, mml, mo, mts⟩ hK hA (fun sz => c_X4_requireTrain l D sz y o a S tb x ln sc f t hR hI kp (by omega)) (cwV 1 mts gX4_rescue_X4_requireTrain rfl rfl rfl (by decide +kernel) ⟨Nat.le_of_ble_eq_true rfl, Nat.le_of_ble_eq_true rfl⟩) 0 wB_0 rfl rfl rfl rfl (Nat.le_of_ble_eq_true rfl) ⟨Nat.zero_le _, Nat.zero_le _⟩ dX4_rescue_2 (fun u2 hu2 => ?_)
    show Gz pp l ee ({ frames := 4, cells := 0, slots := 0, locals := 113 } : Room) ss mm args below meth cd 4 0 0 Q (Zw D vwCl (va_A wst sz) ss (wBq y o a S tb x ln sc (sav a) p6)) 5 [(0, .ref (o 0)), (1, .int (iZ t))] []
    refine z_aload_n mx mb dX4_rescue_5 rfl 0 rfl ?_
    refine z_get (C := RX4) (T := TX4) (N := 5) mx mb mts (in_X4_rescue_X4) mo hK zgw 0 wB_0 rfl 0 (by decide) (mts _ (List.mem_of_getElem? (i := 3) rfl)) (fun _ h9 => h9) rfl dX4_rescue_6 ?_
    refine z_get (C := RX0) (T := TX0) (N := 9) mx mb mts (in_X4_rescue_X0) mo hK zgw (4 + 15 * 0 + 0) ((wB_get 0 0 (by omega) (by omega)).trans wR_0) rfl 1 (by decide) (mts _ (List.mem_of_getElem? (i := 4) rfl)) (fun _ h9 => h9) rfl dX4_rescue_9 ?_
    refine z_iload_n mx mb dX4_rescue_12 rfl 1 rfl ?_
    refine z_top (show t = (n : Int) from by exact hn) ?_
    refine z_aald (i := n) mx mb hK zgw (4 + 15 * 0 + 6) 1 ((wB_get 0 6 (by omega) (by omega)).trans wR_6) rfl (by decide) (by omega) dX4_rescue_13 ?_
    refine z_astore_n mx mb dX4_rescue_14 rfl (by decide) [(2, .ref (a 0 (8 + n))), (0, .ref (o 0)), (1, .int (iZ t))] rfl ?_
    refine z_aload_n mx mb dX4_rescue_15 rfl 0 rfl ?_
    refine z_get (C := RX3) (T := TX3) (N := 8) mx mb mts (in_X4_rescue_X3) mo hK zgw (4 + 15 * 0 + (8 + n)) ((wB_get 0 (8 + n) (by omega) (by omega)).trans (wR_t (by omega))) rfl 4 (by decide) (mts _ (List.mem_of_getElem? (i := 5) rfl)) (fun _ h9 => h9) rfl dX4_rescue_16 ?_
    refine z_top (show (S 0) (8 + n) 4 = f (79 + 8 * (n : Int) + 4) from by exact rt n hn4.1 4 (by omega) (by omega)) ?_
    refine z_iconst mx mb dX4_rescue_19 ?_
    refine z_icmp_eq (tgt := 33) mx mb (by omega) (by omega) dX4_rescue_20 (by decide) (fun c20 => ?_) (fun c20 => ?_)
    · skip
      refine z_aload_n mx mb dX4_rescue_33 rfl 1 rfl ?_
      refine z_callV0 (As := []) (rest := []) ⟨mx, mb, mml, mo, mts⟩ hK hA (fun sz => c_X4_save l D sz y o a S tb x ln sc f hsc hR hW) (cwV 0 mts gX4_rescue_X4_save rfl rfl rfl (by decide +kernel) ⟨Nat.le_of_ble_eq_true rfl, Nat.le_of_ble_eq_true rfl⟩) 0 wB_0 rfl rfl rfl rfl (Nat.le_of_ble_eq_true rfl) ⟨Nat.zero_le _, Nat.zero_le _⟩ dX4_rescue_34 (fun u34 hu34 => ?_)
      obtain ⟨a2, S2⟩ := u34
      obtain ⟨v0, v1, v2, v3, v4, v5⟩ := hu34
      replace v0 : a2 0 = a 0 := v0
      replace v1 : a2 1 = a 1 := v1
      replace v2 : S2 0 = S 0 := v2
      replace v3 : S2 1 = S 1 := v3
      replace v4 : Rel f (S2 (2 + (if sc = 4 then 3 else sc.toNat))) := v4
      replace v5 : ∀ j : Nat, j < (if sc = 4 then 3 else sc.toNat) → S2 (2 + j) = S (2 + j + (if sc = 4 then 1 else 0)) := v5
      have hR2 : Rel f (S2 0) := (by rw [v2]; exact hR)
      show Gz pp l ee ({ frames := 4, cells := 0, slots := 0, locals := 113 } : Room) ss mm args below meth cd 4 0 0 Q (Zw D vwCl (va_A wst sz) ss (wBq y o a2 S2 tb x ln (smS sc) (sav a2) p6)) 37 [(2, .ref (a 0 (8 + n))), (0, .ref (o 0)), (1, .int (iZ t))] []
      rw [← v0]
      refine z_aload_n mx mb dX4_rescue_37 rfl 0 rfl ?_
      refine z_get (C := RX3) (T := TX3) (N := 8) mx mb mts (in_X4_rescue_X3) mo hK zgw (4 + 15 * 0 + (8 + n)) ((wB_get 0 (8 + n) (by omega) (by omega)).trans (wR_t (by omega))) rfl 0 (by decide) (mts _ (List.mem_of_getElem? (i := 6) rfl)) (fun _ h9 => h9) rfl dX4_rescue_38 ?_
      refine z_top (show (S2 0) (8 + n) 0 = f (79 + 8 * (n : Int) + 0) from by exact hR2.2.2.2.2.1 n hn4.1 0 (by omega) (by omega)) ?_
      refine z_istore_n mx mb dX4_rescue_41 rfl (by decide) [(3, .int (iZ (f (79 + 8 * (n : Int) + 0)))), (2, .ref (a2 0 (8 + n))), (0, .ref (o 0)), (1, .int (iZ t))] rfl ?_
      refine z_aload_n mx mb dX4_rescue_42 rfl 1 rfl ?_
      refine z_aload_n mx mb dX4_rescue_43 rfl 2 rfl ?_
      refine z_get (C := RX4) (T := TX4) (N := 5) mx mb mts (in_X4_rescue_X4) mo hK zgw 0 wB_0 rfl 0 (by decide) (mts _ (List.mem_of_getElem? (i := 3) rfl)) (fun _ h9 => h9) rfl dX4_rescue_44 ?_
      refine z_get (C := RX0) (T := TX0) (N := 9) mx mb mts (in_X4_rescue_X0) mo hK zgw (4 + 15 * 0 + 0) ((wB_get 0 0 (by omega) (by omega)).trans wR_0) rfl 0 (by decide) (mts _ (List.mem_of_getElem? (i := 7) rfl)) (fun _ h9 => h9) rfl dX4_rescue_47 ?_
      refine z_get (C := RX1) (T := TX1) (N := 6) mx mb mts (in_X4_rescue_X1) mo hK zgw (4 + 15 * 0 + 1) ((wB_get 0 1 (by omega) (by omega)).trans wR_1) rfl 3 (by decide) (mts _ (List.mem_of_getElem? (i := 8) rfl)) (fun _ h9 => h9) rfl dX4_rescue_50 ?_
      refine z_aload_n mx mb dX4_rescue_53 rfl 2 rfl ?_
      refine z_get (C := RX4) (T := TX4) (N := 5) mx mb mts (in_X4_rescue_X4) mo hK zgw 0 wB_0 rfl 0 (by decide) (mts _ (List.mem_of_getElem? (i := 3) rfl)) (fun _ h9 => h9) rfl dX4_rescue_54 ?_
      refine z_aload_n mx mb dX4_rescue_57 rfl 1 rfl ?_
      refine z_callP (As := [.ref (a2 0 (8 + n))]) (rest := [.ref (a2 0 5), .ref (a2 0 (8 + n))]) ⟨mx, mb, mml, mo, mts⟩ hK zgw (c_X0_blockOf l D y (a2 0) (S2 0) f n (by omega) (by assumption) (by assumption)) (cwV 1 mts gX4_rescue_X0_blockOf rfl rfl rfl (by decide +kernel) ⟨Nat.le_of_ble_eq_true rfl, Nat.le_of_ble_eq_true rfl⟩) (wB_in 0 (by omega)) (4 + 15 * 0 + 0) ((wB_get 0 0 (by omega) (by omega)).trans wR_0) rfl rfl rfl rfl (Nat.le_of_ble_eq_true rfl) ⟨Nat.zero_le _, Nat.zero_le _⟩ dX4_rescue_58 ?_
      refine z_iald mx mb hK zgw (4 + 15 * 0 + 5) 0 ((wB_get 0 5 (by omega) (by omega)).trans wR_5) rfl (by decide) (by omega) dX4_rescue_61 ?_
      refine z_top (show ((S2 0) 5) (blockAt f (f (79 + 8 * (n : Int) + 0))) = brakeOf f (blockAt f (f (79 + 8 * (n : Int) + 0))) from by exact (hR2.2.2.1 _ bt.1 bt.2).1) ?_
      refine z_callTB (j := 0) (t := n) (As := [.int (iZ (brakeOf f (blockAt f (f (79 + 8 * (n : Int) + 0)))))]) (rest := []) (by omega) (by omega) ⟨mx, mb, mml, mo, mts⟩ hK hA (fun sz => c_X3_standOn l D sz y (a2 0 (8 + n)) ((S2 0) (8 + n)) (brakeOf f (blockAt f (f (79 + 8 * (n : Int) + 0)))) ) (cwV 1 mts gX4_rescue_X3_standOn rfl rfl rfl (by decide +kernel) ⟨Nat.le_of_ble_eq_true rfl, Nat.le_of_ble_eq_true rfl⟩) rfl rfl (Nat.le_of_ble_eq_true rfl) ⟨Nat.zero_le _, Nat.zero_le _⟩ dX4_rescue_62 ?_
      show Gz pp l ee ({ frames := 4, cells := 0, slots := 0, locals := 113 } : Room) ss mm args below meth cd 4 0 0 Q (Zw D vwCl (va_A wst sz) ss (wBq y o a2 (uR S2 0 (uc (S2 0) (8 + n) (zu (zu (zu (zu (zu ((S2 0) (8 + n)) 0 (brakeOf f (blockAt f (f (79 + 8 * (n : Int) + 0))))) 1 0) 2 0) 4 1) 5 0))) tb x ln (smS sc) (sav a2) p6)) 65 [(3, .int (iZ (f (79 + 8 * (n : Int) + 0)))), (2, .ref (a2 0 (8 + n))), (0, .ref (o 0)), (1, .int (iZ t))] []
      refine z_iload_n mx mb dX4_rescue_65 rfl 0 rfl ?_
      rw [hQ]
      exact z_retI mx mb mr mlk hK (a2, uR S2 0 (uc (S2 0) (8 + n) (zu (zu (zu (zu (zu ((S2 0) (8 + n)) 0 (brakeOf f (blockAt f (f (79 + 8 * (n : Int) + 0))))) 1 0) 2 0) 4 1) 5 0))) (by exact ⟨by rw [hn], v0, v1, by show Rel _ (uR S2 0 (uc (S2 0) (8 + n) (zu (zu (zu (zu (zu ((S2 0) (8 + n)) 0 (brakeOf f (blockAt f (f (79 + 8 * (n : Int) + 0))))) 1 0) 2 0) 4 1) 5 0)) 0); rw [uR_s]; rw [hn]; exact rel_res hR2 hW hn4.1 rfl, by show Rel f (uR S2 0 (uc (S2 0) (8 + n) (zu (zu (zu (zu (zu ((S2 0) (8 + n)) 0 (brakeOf f (blockAt f (f (79 + 8 * (n : Int) + 0))))) 1 0) 2 0) 4 1) 5 0)) (2 + (if sc = 4 then 3 else sc.toNat))); rw [uR_n (by omega)]; exact v4, fun j hj => (by show uR S2 0 (uc (S2 0) (8 + n) (zu (zu (zu (zu (zu ((S2 0) (8 + n)) 0 (brakeOf f (blockAt f (f (79 + 8 * (n : Int) + 0))))) 1 0) 2 0) 4 1) 5 0)) (2 + j) = _; rw [uR_n (by omega)]; exact v5 j hj)⟩) rfl dX4_rescue_66
    · skip
      exact absurd c20 (by omega)
  subst hQ
  subst hw0
  exact hstart
