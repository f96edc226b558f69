theorem in_X4_takeTrain_X0 : ∀ w ∈ wsX00, w ∈ wsX4_takeTrain := by decide +kernel
theorem in_X4_takeTrain_X4 : ∀ w ∈ wsX40, w ∈ wsX4_takeTrain := by decide +kernel
set_option maxRecDepth 100000 in
set_option maxHeartbeats 4000000 in
theorem c_X4_takeTrain (l : Launch) (D : va_G) (sz : Nat) (y : Nat → ClassId) (o : Nat → Nat) (a : Nat → Nat → Nat) (S : Nat → Nat → Int → Int) (tb : Nat → Nat) (x : Int → Int) (ln sc : Int) (f : Int → Int) (hR : Rel f (S 0)) (hI : Inv 100000 f) (kp : Kp f) (hsc : 0 ≤ sc ∧ sc ≤ 4) (h2 : f 2 ≠ 0) : Met l yX4_takeTrain wsX4_takeTrain ({ frames := 4, cells := 0, slots := 0, locals := 113 } : Room) (zPw D vwCl (zT y) (wBq y o a S tb x ln sc (sav a) p6) sz [.ref (o 0)]) (va_Qi (fun (r : Int32) (u : (Nat → Nat → Nat) × (Nat → Nat → Int → Int)) => r = iZ (f 2 - 1) ∧ u.1 0 = a 0 ∧ u.1 1 = a 1 ∧ Rel (zu f 2 (f 2 - 1)) (u.2 0) ∧ Rel f (u.2 (2 + (if sc = 4 then 3 else sc.toNat))) ∧ ∀ j : Nat, j < (if sc = 4 then 3 else sc.toNat) → u.2 (2 + j) = S (2 + j + (if sc = 4 then 1 else 0))) (zB D vwCl (zT y) (wBq y o a S tb x ln sc (sav a) p6) sz (fun u : (Nat → Nat → Nat) × (Nat → Nat → Int → Int) => wBq y o u.1 u.2 tb x ln (smS sc) (sav u.1) p6)) (va_A (wBq y o a S tb x ln sc (sav a) p6) sz)) 0 0 (va_A (wBq y o a S tb x ln sc (sav a) p6) sz) := by
  refine z_headW (cc := cX4_takeTrain) (maxL := 1) (ret := (some .int)) [(0, .ref (o 0))] rfl (Nat.le_of_ble_eq_true rfl) (by decide +kernel) rfl ?_
  intro pp ee ss mm below meth cd mx mb mr mml mo mts mlk hK hname hsz hA
  generalize ([.ref (o 0)] : List Value).toArray = args at mts ⊢
  obtain ⟨wst, hw0⟩ : ∃ wst, wst = wBq y o a S tb x ln sc (sav a) p6 := ⟨_, rfl⟩
  have hA : ∀ q, ss.heap.size ≤ q → va_A wst sz q := by rw [hw0]; exact hA
  obtain ⟨Q, hQ⟩ : ∃ Q, Q = MQ below (va_Qi (fun (r : Int32) (u : (Nat → Nat → Nat) × (Nat → Nat → Int → Int)) => r = iZ (f 2 - 1) ∧ u.1 0 = a 0 ∧ u.1 1 = a 1 ∧ Rel (zu f 2 (f 2 - 1)) (u.2 0) ∧ Rel f (u.2 (2 + (if sc = 4 then 3 else sc.toNat))) ∧ ∀ j : Nat, j < (if sc = 4 then 3 else sc.toNat) → u.2 (2 + j) = S (2 + j + (if sc = 4 then 1 else 0))) (zB D vwCl (zT y) wst sz (fun u : (Nat → Nat → Nat) × (Nat → Nat → Int → Int) => wBq y o u.1 u.2 tb x ln (smS sc) (sav u.1) p6)) (va_A wst sz)) args ss 0 0 (va_A wst sz) := ⟨_, rfl⟩
  have hstart : Gz pp l ee ({ frames := 4, cells := 0, slots := 0, locals := 113 } : Room) ss mm args below meth cd 1 0 0 Q (Zw D vwCl (va_A wst sz) ss (wBq y o a S tb x ln sc (sav a) p6)) 0 [(0, .ref (o 0))] [] := by
    obtain ⟨hW, hN, hT⟩ := (Inv_Jy hI).f
    obtain ⟨w0, w1, w2, w3, w4, w5, w6⟩ := id hW
    obtain ⟨n3, n4, n5, n6, n7, n8, n9, n10⟩ := id hN
    obtain ⟨⟨r0, r1, r2, r3, r4⟩, rc, rb, ⟨s0, s1, s2, s3⟩, rt, rl⟩ := id hR
    obtain ⟨kA, hG, hS9⟩ := id kp
    refine z_aload_n mx mb dX4_takeTrain_0 rfl 0 rfl ?_
    refine z_get (C := RX4) (T := TX4) (N := 5) mx mb mts (in_X4_takeTrain_X4) mo hK zgw 0 wB_0 rfl 0 (by decide) (mts _ (List.mem_of_getElem? (i := 3) rfl)) (fun _ h9 => h9) rfl dX4_takeTrain_1 ?_
    refine z_get (C := RX0) (T := TX0) (N := 9) mx mb mts (in_X4_takeTrain_X0) mo hK zgw (4 + 15 * 0 + 0) ((wB_get 0 0 (by omega) (by omega)).trans wR_0) rfl 6 (by decide) (mts _ (List.mem_of_getElem? (i := 4) rfl)) (fun _ h9 => h9) rfl dX4_takeTrain_4 ?_
    refine z_top (show (S 0) 0 0 = f 2 from by exact r2) ?_
    refine z_if_ne (tgt := 20) mx mb (by omega) dX4_takeTrain_7 (by decide) (fun c7 => ?_) (fun c7 => ?_)
    · skip
      refine z_aload_n mx mb dX4_takeTrain_20 rfl 0 rfl ?_
      refine z_callV0 (As := []) (rest := []) ⟨mx, mb, mml, mo, mts⟩ hK hA (fun sz => c_X4_save l D sz y o a S tb x ln sc f hsc hR hW) (cwV 0 mts gX4_takeTrain_X4_save rfl rfl rfl (by decide +kernel) ⟨Nat.le_of_ble_eq_true rfl, Nat.le_of_ble_eq_true rfl⟩) 0 wB_0 rfl rfl rfl rfl (Nat.le_of_ble_eq_true rfl) ⟨Nat.zero_le _, Nat.zero_le _⟩ dX4_takeTrain_21 (fun u21 hu21 => ?_)
      obtain ⟨a2, S2⟩ := u21
      obtain ⟨v0, v1, v2, v3, v4, v5⟩ := hu21
      replace v0 : a2 0 = a 0 := v0
      replace v1 : a2 1 = a 1 := v1
      replace v2 : S2 0 = S 0 := v2
      replace v3 : S2 1 = S 1 := v3
      replace v4 : Rel f (S2 (2 + (if sc = 4 then 3 else sc.toNat))) := v4
      replace v5 : ∀ j : Nat, j < (if sc = 4 then 3 else sc.toNat) → S2 (2 + j) = S (2 + j + (if sc = 4 then 1 else 0)) := v5
      have hR2 : Rel f (S2 0) := (by rw [v2]; exact hR)
      show Gz pp l ee ({ frames := 4, cells := 0, slots := 0, locals := 113 } : Room) ss mm args below meth cd 1 0 0 Q (Zw D vwCl (va_A wst sz) ss (wBq y o a2 S2 tb x ln (smS sc) (sav a2) p6)) 24 [(0, .ref (o 0))] []
      refine z_aload_n mx mb dX4_takeTrain_24 rfl 0 rfl ?_
      refine z_get (C := RX4) (T := TX4) (N := 5) mx mb mts (in_X4_takeTrain_X4) mo hK zgw 0 wB_0 rfl 0 (by decide) (mts _ (List.mem_of_getElem? (i := 3) rfl)) (fun _ h9 => h9) rfl dX4_takeTrain_25 ?_
      refine z_dup mx mb dX4_takeTrain_28 rfl ?_
      refine z_get (C := RX0) (T := TX0) (N := 9) mx mb mts (in_X4_takeTrain_X0) mo hK zgw (4 + 15 * 0 + 0) ((wB_get 0 0 (by omega) (by omega)).trans wR_0) rfl 6 (by decide) (mts _ (List.mem_of_getElem? (i := 4) rfl)) (fun _ h9 => h9) rfl dX4_takeTrain_29 ?_
      refine z_top (show (S2 0) 0 0 = f 2 from by rw [v2]; exact r2) ?_
      refine z_iconst mx mb dX4_takeTrain_32 ?_
      refine z_isub mx mb dX4_takeTrain_33 ?_
      refine z_put (ty := .int) (C := RX0) (T := TX0) (N := 9) mx mb mts (in_X4_takeTrain_X0) tyX0_ok nmX0 mo hK (4 + 15 * 0 + 0) ((wB_get 0 0 (by omega) (by omega)).trans wR_0) rfl 6 (by decide) (mts _ (List.mem_of_getElem? (i := 4) rfl)) (fun _ h9 => h9) rfl (by decide +kernel) rfl rfl (Nat.le_of_ble_eq_true rfl) dX4_takeTrain_34 (wBq y o a2 (uR S2 0 (uc (S2 0) 0 (zu ((S2 0) 0) 0 ((f 2) - 1)))) tb x ln (smS sc) (sav a2) p6) (wB_set 0 0 (by omega) (by omega) wR_s0_0) ?_
      refine z_aload_n mx mb dX4_takeTrain_37 rfl 0 rfl ?_
      refine z_get (C := RX4) (T := TX4) (N := 5) mx mb mts (in_X4_takeTrain_X4) mo hK zgw 0 wB_0 rfl 0 (by decide) (mts _ (List.mem_of_getElem? (i := 3) rfl)) (fun _ h9 => h9) rfl dX4_takeTrain_38 ?_
      refine z_get (C := RX0) (T := TX0) (N := 9) mx mb mts (in_X4_takeTrain_X0) mo hK zgw (4 + 15 * 0 + 0) ((wB_get 0 0 (by omega) (by omega)).trans wR_0) rfl 6 (by decide) (mts _ (List.mem_of_getElem? (i := 4) rfl)) (fun _ h9 => h9) rfl dX4_takeTrain_41 ?_
      refine z_top (show ((uR S2 0 (uc (S2 0) 0 (zu ((S2 0) 0) 0 ((f 2) - 1)))) 0) 0 0 = f 2 - 1 from by rw [uR_s]; rfl) ?_
      rw [hQ]
      exact z_retI mx mb mr mlk hK (a2, uR S2 0 (uc (S2 0) 0 (zu ((S2 0) 0) 0 ((f 2) - 1)))) (by exact ⟨rfl, v0, v1, by show Rel _ (uR S2 0 (uc (S2 0) 0 (zu ((S2 0) 0) 0 ((f 2) - 1))) 0); rw [uR_s]; exact rel_take hR2 hW h2, by show Rel f (uR S2 0 (uc (S2 0) 0 (zu ((S2 0) 0) 0 ((f 2) - 1))) (2 + (if sc = 4 then 3 else sc.toNat))); rw [uR_n (by omega)]; exact v4, fun j hj => (by show uR S2 0 (uc (S2 0) 0 (zu ((S2 0) 0) 0 ((f 2) - 1))) (2 + j) = _; rw [uR_n (by omega)]; exact v5 j hj)⟩) rfl dX4_takeTrain_44
    · skip
      exact absurd c7 (by omega)
  subst hQ
  subst hw0
  exact hstart

theorem in_X4_setHeight_X0 : ∀ w ∈ wsX00, w ∈ wsX4_setHeight := by decide +kernel
theorem in_X4_setHeight_X1 : ∀ w ∈ wsX10, w ∈ wsX4_setHeight := by decide +kernel
theorem in_X4_setHeight_X4 : ∀ w ∈ wsX40, w ∈ wsX4_setHeight := by decide +kernel
set_option maxRecDepth 100000 in
set_option maxHeartbeats 4000000 in
theorem c_X4_setHeight (l : Launch) (D : va_G) (sz : Nat) (y : Nat → ClassId) (o : Nat → Nat) (a : Nat → Nat → Nat) (S : Nat → Nat → Int → Int) (tb : Nat → Nat) (x : Int → Int) (ln sc : Int) (f : Int → Int) (c z : Int) (hR : Rel f (S 0)) (hI : Inv 100000 f) (kp : Kp f) (hsc : 0 ≤ sc ∧ sc ≤ 4) (hc : 0 ≤ c ∧ c < f 0) (hz : 0 ≤ z ∧ z ≤ 9) : Met l yX4_setHeight wsX4_setHeight ({ frames := 4, cells := 0, slots := 0, locals := 113 } : Room) (zPw D vwCl (zT y) (wBq y o a S tb x ln sc (sav a) p6) sz [.ref (o 0), .int (iZ c), .int (iZ z)]) (va_Qi (fun (r : Int32) (u : (Nat → Nat → Nat) × (Nat → Nat → Int → Int)) => r = iZ (f (11 + c)) ∧ u.1 0 = a 0 ∧ u.1 1 = a 1 ∧ Rel (zu f (11 + c) z) (u.2 0) ∧ Rel f (u.2 (2 + (if sc = 4 then 3 else sc.toNat))) ∧ ∀ j : Nat, j < (if sc = 4 then 3 else sc.toNat) → u.2 (2 + j) = S (2 + j + (if sc = 4 then 1 else 0))) (zB D vwCl (zT y) (wBq y o a S tb x ln sc (sav a) p6) sz (fun u : (Nat → Nat → Nat) × (Nat → Nat → Int → Int) => wBq y o u.1 u.2 tb x ln (smS sc) (sav u.1) p6)) (va_A (wBq y o a S tb x ln sc (sav a) p6) sz)) 0 0 (va_A (wBq y o a S tb x ln sc (sav a) p6) sz) := by
  refine z_headW (cc := cX4_setHeight) (maxL := 4) (ret := (some .int)) [(0, .ref (o 0)), (1, .int (iZ c)), (2, .int (iZ z))] rfl (Nat.le_of_ble_eq_true rfl) (by decide +kernel) rfl ?_
  intro pp ee ss mm below meth cd mx mb mr mml mo mts mlk hK hname hsz hA
  generalize ([.ref (o 0), .int (iZ c), .int (iZ z)] : List Value).toArray = args at mts ⊢
  obtain ⟨wst, hw0⟩ : ∃ wst, wst = wBq y o a S tb x ln sc (sav a) p6 := ⟨_, rfl⟩
  have hA : ∀ q, ss.heap.size ≤ q → va_A wst sz q := by rw [hw0]; exact hA
  obtain ⟨Q, hQ⟩ : ∃ Q, Q = MQ below (va_Qi (fun (r : Int32) (u : (Nat → Nat → Nat) × (Nat → Nat → Int → Int)) => r = iZ (f (11 + c)) ∧ u.1 0 = a 0 ∧ u.1 1 = a 1 ∧ Rel (zu f (11 + c) z) (u.2 0) ∧ Rel f (u.2 (2 + (if sc = 4 then 3 else sc.toNat))) ∧ ∀ j : Nat, j < (if sc = 4 then 3 else sc.toNat) → u.2 (2 + j) = S (2 + j + (if sc = 4 then 1 else 0))) (zB D vwCl (zT y) wst sz (fun u : (Nat → Nat → Nat) × (Nat → Nat → Int → Int) => wBq y o u.1 u.2 tb x ln (smS sc) (sav u.1) p6)) (va_A wst sz)) args ss 0 0 (va_A wst sz) := ⟨_, rfl⟩
  have hstart : Gz pp l ee ({ frames := 4, cells := 0, slots := 0, locals := 113 } : Room) ss mm args below meth cd 4 0 0 Q (Zw D vwCl (va_A wst sz) ss (wBq y o a S tb x ln sc (sav a) p6)) 0 [(0, .ref (o 0)), (1, .int (iZ c)), (2, .int (iZ z))] [] := by
    obtain ⟨hW, hN, hT⟩ := (Inv_Jy hI).f
    obtain ⟨w0, w1, w2, w3, w4, w5, w6⟩ := id hW
    obtain ⟨n3, n4, n5, n6, n7, n8, n9, n10⟩ := id hN
    obtain ⟨⟨r0, r1, r2, r3, r4⟩, rc, rb, ⟨s0, s1, s2, s3⟩, rt, rl⟩ := id hR
    obtain ⟨kA, hG, hS9⟩ := id kp
    refine z_aload_n mx mb dX4_setHeight_0 rfl 0 rfl ?_
    refine z_iload_n mx mb dX4_setHeight_1 rfl 1 rfl ?_
    refine z_callV0 (As := [.int (iZ c)]) (rest := []) ⟨mx, mb, mml, mo, mts⟩ hK hA (fun sz => c_X4_requireCell l D sz y o a S tb x ln sc f c hR hI kp (by omega)) (cwV 1 mts gX4_setHeight_X4_requireCell rfl rfl rfl (by decide +kernel) ⟨Nat.le_of_ble_eq_true rfl, Nat.le_of_ble_eq_true rfl⟩) 0 wB_0 rfl rfl rfl rfl (Nat.le_of_ble_eq_true rfl) ⟨Nat.zero_le _, Nat.zero_le _⟩ dX4_setHeight_2 (fun u2 hu2 => ?_)
    show Gz pp l ee ({ frames := 4, cells := 0, slots := 0, locals := 113 } : Room) ss mm args below meth cd 4 0 0 Q (Zw D vwCl (va_A wst sz) ss (wBq y o a S tb x ln sc (sav a) p6)) 5 [(0, .ref (o 0)), (1, .int (iZ c)), (2, .int (iZ z))] []
    refine z_iload_n mx mb dX4_setHeight_5 rfl 2 rfl ?_
    refine z_if_lt (tgt := 15) mx mb (by omega) dX4_setHeight_6 (by decide) (fun c6 => ?_) (fun c6 => ?_)
    · skip
      exact absurd c6 (by omega)
    · skip
      refine z_iload_n mx mb dX4_setHeight_9 rfl 2 rfl ?_
      refine z_bipush mx mb dX4_setHeight_10 (by decide +kernel) ?_
      refine z_icmp_le (tgt := 25) mx mb (by omega) (by omega) dX4_setHeight_12 (by decide) (fun c12 => ?_) (fun c12 => ?_)
      · skip
        refine z_aload_n mx mb dX4_setHeight_25 rfl 0 rfl ?_
        refine z_callV0 (As := []) (rest := []) ⟨mx, mb, mml, mo, mts⟩ hK hA (fun sz => c_X4_save l D sz y o a S tb x ln sc f hsc hR hW) (cwV 0 mts gX4_setHeight_X4_save rfl rfl rfl (by decide +kernel) ⟨Nat.le_of_ble_eq_true rfl, Nat.le_of_ble_eq_true rfl⟩) 0 wB_0 rfl rfl rfl rfl (Nat.le_of_ble_eq_true rfl) ⟨Nat.zero_le _, Nat.zero_le _⟩ dX4_setHeight_26 (fun u26 hu26 => ?_)
        obtain ⟨a2, S2⟩ := u26
        obtain ⟨v0, v1, v2, v3, v4, v5⟩ := hu26
        replace v0 : a2 0 = a 0 := v0
        replace v1 : a2 1 = a 1 := v1
        replace v2 : S2 0 = S 0 := v2
        replace v3 : S2 1 = S 1 := v3
        replace v4 : Rel f (S2 (2 + (if sc = 4 then 3 else sc.toNat))) := v4
        replace v5 : ∀ j : Nat, j < (if sc = 4 then 3 else sc.toNat) → S2 (2 + j) = S (2 + j + (if sc = 4 then 1 else 0)) := v5
        have hR2 : Rel f (S2 0) := (by rw [v2]; exact hR)
        show Gz pp l ee ({ frames := 4, cells := 0, slots := 0, locals := 113 } : Room) ss mm args below meth cd 4 0 0 Q (Zw D vwCl (va_A wst sz) ss (wBq y o a2 S2 tb x ln (smS sc) (sav a2) p6)) 29 [(0, .ref (o 0)), (1, .int (iZ c)), (2, .int (iZ z))] []
        refine z_aload_n mx mb dX4_setHeight_29 rfl 0 rfl ?_
        refine z_get (C := RX4) (T := TX4) (N := 5) mx mb mts (in_X4_setHeight_X4) mo hK zgw 0 wB_0 rfl 0 (by decide) (mts _ (List.mem_of_getElem? (i := 3) rfl)) (fun _ h9 => h9) rfl dX4_setHeight_30 ?_
        refine z_get (C := RX0) (T := TX0) (N := 9) mx mb mts (in_X4_setHeight_X0) mo hK zgw (4 + 15 * 0 + 0) ((wB_get 0 0 (by omega) (by omega)).trans wR_0) rfl 0 (by decide) (mts _ (List.mem_of_getElem? (i := 4) rfl)) (fun _ h9 => h9) rfl dX4_setHeight_33 ?_
        refine z_get (C := RX1) (T := TX1) (N := 6) mx mb mts (in_X4_setHeight_X1) mo hK zgw (4 + 15 * 0 + 1) ((wB_get 0 1 (by omega) (by omega)).trans wR_1) rfl 0 (by decide) (mts _ (List.mem_of_getElem? (i := 5) rfl)) (fun _ h9 => h9) rfl dX4_setHeight_36 ?_
        refine z_iload_n mx mb dX4_setHeight_39 rfl 1 rfl ?_
        refine z_iald mx mb hK zgw (4 + 15 * 0 + 2) 0 ((wB_get 0 2 (by omega) (by omega)).trans wR_2) rfl (by decide) (by omega) dX4_setHeight_40 ?_
        refine z_top (show ((S2 0) 2) c = f (11 + c) from by exact (hR2.2.1 c hc.1 hc.2).1) ?_
        refine z_istore_n mx mb dX4_setHeight_41 rfl (by decide) [(3, .int (iZ (f (11 + c)))), (0, .ref (o 0)), (1, .int (iZ c)), (2, .int (iZ z))] rfl ?_
        refine z_aload_n mx mb dX4_setHeight_42 rfl 1 rfl ?_
        refine z_get (C := RX4) (T := TX4) (N := 5) mx mb mts (in_X4_setHeight_X4) mo hK zgw 0 wB_0 rfl 0 (by decide) (mts _ (List.mem_of_getElem? (i := 3) rfl)) (fun _ h9 => h9) rfl dX4_setHeight_43 ?_
        refine z_get (C := RX0) (T := TX0) (N := 9) mx mb mts (in_X4_setHeight_X0) mo hK zgw (4 + 15 * 0 + 0) ((wB_get 0 0 (by omega) (by omega)).trans wR_0) rfl 0 (by decide) (mts _ (List.mem_of_getElem? (i := 4) rfl)) (fun _ h9 => h9) rfl dX4_setHeight_46 ?_
        refine z_get (C := RX1) (T := TX1) (N := 6) mx mb mts (in_X4_setHeight_X1) mo hK zgw (4 + 15 * 0 + 1) ((wB_get 0 1 (by omega) (by omega)).trans wR_1) rfl 0 (by decide) (mts _ (List.mem_of_getElem? (i := 5) rfl)) (fun _ h9 => h9) rfl dX4_setHeight_49 ?_
        refine z_iload_n mx mb dX4_setHeight_52 rfl 2 rfl ?_
        refine z_iload_n mx mb dX4_setHeight_53 rfl 3 rfl ?_
        refine z_iast mx mb hK (4 + 15 * 0 + 2) 0 ((wB_get 0 2 (by omega) (by omega)).trans wR_2) rfl (by decide) (by omega) dX4_setHeight_54 (wBq y o a2 (uR S2 0 (uc (S2 0) 2 (zu ((S2 0) 2) c z))) tb x ln (smS sc) (sav a2) p6) (wB_set 0 2 (by omega) (by omega) wR_s2) ?_
        refine z_iload_n mx mb dX4_setHeight_55 rfl 0 rfl ?_
        rw [hQ]
        exact z_retI mx mb mr mlk hK (a2, uR S2 0 (uc (S2 0) 2 (zu ((S2 0) 2) c z))) (by exact ⟨rfl, v0, v1, by show Rel _ (uR S2 0 (uc (S2 0) 2 (zu ((S2 0) 2) c z)) 0); rw [uR_s]; exact rel_hgt hR2 hW (by omega), by show Rel f (uR S2 0 (uc (S2 0) 2 (zu ((S2 0) 2) c z)) (2 + (if sc = 4 then 3 else sc.toNat))); rw [uR_n (by omega)]; exact v4, fun j hj => (by show uR S2 0 (uc (S2 0) 2 (zu ((S2 0) 2) c z)) (2 + j) = _; rw [uR_n (by omega)]; exact v5 j hj)⟩) rfl dX4_setHeight_56
      · skip
        exact absurd c12 (by omega)
  subst hQ
  subst hw0
  exact hstart

theorem in_X4_addTrain_X0 : ∀ w ∈ wsX00, w ∈ wsX4_addTrain := by decide +kernel
theorem in_X4_addTrain_X4 : ∀ w ∈ wsX40, w ∈ wsX4_addTrain := by decide +kernel
set_option maxRecDepth 100000 in
set_option maxHeartbeats 4000000 in
theorem c_X4_addTrain (l : Launch) (D : va_G) (sz : Nat) (y : Nat → ClassId) (o : Nat → Nat) (a : Nat → Nat → Nat) (S : Nat → Nat → Int → Int) (tb : Nat → Nat) (x : Int → Int) (ln sc : Int) (f : Int → Int) (b : Int) (hR : Rel f (S 0)) (hI : Inv 100000 f) (kp : Kp f) (hsc : 0 ≤ sc ∧ sc ≤ 4) (hb9 : 0 ≤ b ∧ b < f 1) (h24 : f 2 < 4) (hf : isFree f b = true) : Met l yX4_addTrain wsX4_addTrain ({ frames := 4, cells := 0, slots := 0, locals := 113 } : Room) (zPw D vwCl (zT y) (wBq y o a S tb x ln sc (sav a) p6) sz [.ref (o 0), .int (iZ b)]) (va_Qi (fun (r : Int32) (u : (Nat → Nat → Nat) × (Nat → Nat → Int → Int)) => r = iZ (f 2) ∧ u.1 0 = a 0 ∧ u.1 1 = a 1 ∧ Rel (addT f b) (u.2 0) ∧ Rel f (u.2 (2 + (if sc = 4 then 3 else sc.toNat))) ∧ ∀ j : Nat, j < (if sc = 4 then 3 else sc.toNat) → u.2 (2 + j) = S (2 + j + (if sc = 4 then 1 else 0))) (zB D vwCl (zT y) (wBq y o a S tb x ln sc (sav a) p6) sz (fun u : (Nat → Nat → Nat) × (Nat → Nat → Int → Int) => wBq y o u.1 u.2 tb x ln (smS sc) (sav u.1) p6)) (va_A (wBq y o a S tb x ln sc (sav a) p6) sz)) 0 0 (va_A (wBq y o a S tb x ln sc (sav a) p6) sz) := by
  refine z_headW (cc := cX4_addTrain) (maxL := 2) (ret := (some .int)) [(0, .ref (o 0)), (1, .int (iZ b))] rfl (Nat.le_of_ble_eq_true rfl) (by decide +kernel) rfl ?_
  intro pp ee ss mm below meth cd mx mb mr mml mo mts mlk hK hname hsz hA
  generalize ([.ref (o 0), .int (iZ b)] : List Value).toArray = args at mts ⊢
  obtain ⟨wst, hw0⟩ : ∃ wst, wst = wBq y o a S tb x ln sc (sav a) p6 := ⟨_, rfl⟩
  have hA : ∀ q, ss.heap.size ≤ q → va_A wst sz q := by rw [hw0]; exact hA
  obtain ⟨Q, hQ⟩ : ∃ Q, Q = MQ below (va_Qi (fun (r : Int32) (u : (Nat → Nat → Nat) × (Nat → Nat → Int → Int)) => r = iZ (f 2) ∧ u.1 0 = a 0 ∧ u.1 1 = a 1 ∧ Rel (addT f b) (u.2 0) ∧ Rel f (u.2 (2 + (if sc = 4 then 3 else sc.toNat))) ∧ ∀ j : Nat, j < (if sc = 4 then 3 else sc.toNat) → u.2 (2 + j) = S (2 + j + (if sc = 4 then 1 else 0))) (zB D vwCl (zT y) wst sz (fun u : (Nat → Nat → Nat) × (Nat → Nat → Int → Int) => wBq y o u.1 u.2 tb x ln (smS sc) (sav u.1) p6)) (va_A wst sz)) args ss 0 0 (va_A wst sz) := ⟨_, rfl⟩
  have hstart : Gz pp l ee ({ frames := 4, cells := 0, slots := 0, locals := 113 } : Room) ss mm args below meth cd 2 0 0 Q (Zw D vwCl (va_A wst sz) ss (wBq y o a S tb x ln sc (sav a) p6)) 0 [(0, .ref (o 0)), (1, .int (iZ b))] [] := by
    obtain ⟨hW, hN, hT⟩ := (Inv_Jy hI).f
    obtain ⟨w0, w1, w2, w3, w4, w5, w6⟩ := id hW
    obtain ⟨n3, n4, n5, n6, n7, n8, n9, n10⟩ := id hN
    obtain ⟨⟨r0, r1, r2, r3, r4⟩, rc, rb, ⟨s0, s1, s2, s3⟩, rt, rl⟩ := id hR
    obtain ⟨kA, hG, hS9⟩ := id kp
    refine z_aload_n mx mb dX4_addTrain_0 rfl 0 rfl ?_
    refine z_iload_n mx mb dX4_addTrain_1 rfl 1 rfl ?_
    refine z_callV0 (As := [.int (iZ b)]) (rest := []) ⟨mx, mb, mml, mo, mts⟩ hK hA (fun sz => c_X4_requireBlock l D sz y o a S tb x ln sc f b hR hI kp (by omega)) (cwV 1 mts gX4_addTrain_X4_requireBlock rfl rfl rfl (by decide +kernel) ⟨Nat.le_of_ble_eq_true rfl, Nat.le_of_ble_eq_true rfl⟩) 0 wB_0 rfl rfl rfl rfl (Nat.le_of_ble_eq_true rfl) ⟨Nat.zero_le _, Nat.zero_le _⟩ dX4_addTrain_2 (fun u2 hu2 => ?_)
    show Gz pp l ee ({ frames := 4, cells := 0, slots := 0, locals := 113 } : Room) ss mm args below meth cd 2 0 0 Q (Zw D vwCl (va_A wst sz) ss (wBq y o a S tb x ln sc (sav a) p6)) 5 [(0, .ref (o 0)), (1, .int (iZ b))] []
    refine z_aload_n mx mb dX4_addTrain_5 rfl 0 rfl ?_
    refine z_get (C := RX4) (T := TX4) (N := 5) mx mb mts (in_X4_addTrain_X4) mo hK zgw 0 wB_0 rfl 0 (by decide) (mts _ (List.mem_of_getElem? (i := 3) rfl)) (fun _ h9 => h9) rfl dX4_addTrain_6 ?_
    refine z_get (C := RX0) (T := TX0) (N := 9) mx mb mts (in_X4_addTrain_X0) mo hK zgw (4 + 15 * 0 + 0) ((wB_get 0 0 (by omega) (by omega)).trans wR_0) rfl 6 (by decide) (mts _ (List.mem_of_getElem? (i := 4) rfl)) (fun _ h9 => h9) rfl dX4_addTrain_9 ?_
    refine z_top (show (S 0) 0 0 = f 2 from by exact r2) ?_
    refine z_iconst mx mb dX4_addTrain_12 ?_
    refine z_icmp_ne (tgt := 26) mx mb (by omega) (by omega) dX4_addTrain_13 (by decide) (fun c13 => ?_) (fun c13 => ?_)
    · skip
      refine z_aload_n mx mb dX4_addTrain_26 rfl 0 rfl ?_
      refine z_get (C := RX4) (T := TX4) (N := 5) mx mb mts (in_X4_addTrain_X4) mo hK zgw 0 wB_0 rfl 0 (by decide) (mts _ (List.mem_of_getElem? (i := 3) rfl)) (fun _ h9 => h9) rfl dX4_addTrain_27 ?_
      refine z_iload_n mx mb dX4_addTrain_30 rfl 1 rfl ?_
      refine z_callP (As := [.int (iZ b)]) (rest := []) ⟨mx, mb, mml, mo, mts⟩ hK zgw (c_X0_isFree l D y (a 0) (S 0) f b (by omega) (by assumption) (by assumption) (by assumption)) (cwV 1 mts gX4_addTrain_X0_isFree rfl rfl rfl (by decide +kernel) ⟨Nat.le_of_ble_eq_true rfl, Nat.le_of_ble_eq_true rfl⟩) (wB_in 0 (by omega)) (4 + 15 * 0 + 0) ((wB_get 0 0 (by omega) (by omega)).trans wR_0) rfl rfl rfl rfl (Nat.le_of_ble_eq_true rfl) ⟨Nat.zero_le _, Nat.zero_le _⟩ dX4_addTrain_31 ?_
      refine z_if_ne (tgt := 47) mx mb (b2z_rng _) dX4_addTrain_34 (by decide) (fun c34 => ?_) (fun c34 => ?_)
      · skip
        refine z_aload_n mx mb dX4_addTrain_47 rfl 0 rfl ?_
        refine z_callV0 (As := []) (rest := []) ⟨mx, mb, mml, mo, mts⟩ hK hA (fun sz => c_X4_save l D sz y o a S tb x ln sc f hsc hR hW) (cwV 0 mts gX4_addTrain_X4_save rfl rfl rfl (by decide +kernel) ⟨Nat.le_of_ble_eq_true rfl, Nat.le_of_ble_eq_true rfl⟩) 0 wB_0 rfl rfl rfl rfl (Nat.le_of_ble_eq_true rfl) ⟨Nat.zero_le _, Nat.zero_le _⟩ dX4_addTrain_48 (fun u48 hu48 => ?_)
        obtain ⟨a2, S2⟩ := u48
        obtain ⟨v0, v1, v2, v3, v4, v5⟩ := hu48
        replace v0 : a2 0 = a 0 := v0
        replace v1 : a2 1 = a 1 := v1
        replace v2 : S2 0 = S 0 := v2
        replace v3 : S2 1 = S 1 := v3
        replace v4 : Rel f (S2 (2 + (if sc = 4 then 3 else sc.toNat))) := v4
        replace v5 : ∀ j : Nat, j < (if sc = 4 then 3 else sc.toNat) → S2 (2 + j) = S (2 + j + (if sc = 4 then 1 else 0)) := v5
        have hR2 : Rel f (S2 0) := (by rw [v2]; exact hR)
        show Gz pp l ee ({ frames := 4, cells := 0, slots := 0, locals := 113 } : Room) ss mm args below meth cd 2 0 0 Q (Zw D vwCl (va_A wst sz) ss (wBq y o a2 S2 tb x ln (smS sc) (sav a2) p6)) 51 [(0, .ref (o 0)), (1, .int (iZ b))] []
        refine z_aload_n mx mb dX4_addTrain_51 rfl 0 rfl ?_
        refine z_get (C := RX4) (T := TX4) (N := 5) mx mb mts (in_X4_addTrain_X4) mo hK zgw 0 wB_0 rfl 0 (by decide) (mts _ (List.mem_of_getElem? (i := 3) rfl)) (fun _ h9 => h9) rfl dX4_addTrain_52 ?_
        refine z_iload_n mx mb dX4_addTrain_55 rfl 1 rfl ?_
        refine z_rideV (j := 0) (As := [.int (iZ b)]) (rest := []) (by omega) ⟨mx, mb, mml, mo, mts⟩ hK hA (fun sz => c_X0_putTrain l D sz y (a2 0) (S2 0) f b (by omega) (by omega) (by assumption) (by assumption)) (cwV 1 mts gX4_addTrain_X0_putTrain rfl rfl rfl (by decide +kernel) ⟨Nat.le_of_ble_eq_true rfl, Nat.le_of_ble_eq_true rfl⟩) rfl rfl (Nat.le_of_ble_eq_true rfl) ⟨Nat.zero_le _, Nat.zero_le _⟩ dX4_addTrain_56 (fun u56 hu56 => ?_)
        have hu56 : Rel (addT f b) u56 := hu56
        show Gz pp l ee ({ frames := 4, cells := 0, slots := 0, locals := 113 } : Room) ss mm args below meth cd 2 0 0 Q (Zw D vwCl (va_A wst sz) ss (wBq y o a2 (uR S2 0 u56) tb x ln (smS sc) (sav a2) p6)) 59 [(0, .ref (o 0)), (1, .int (iZ b))] []
        refine z_aload_n mx mb dX4_addTrain_59 rfl 0 rfl ?_
        refine z_get (C := RX4) (T := TX4) (N := 5) mx mb mts (in_X4_addTrain_X4) mo hK zgw 0 wB_0 rfl 0 (by decide) (mts _ (List.mem_of_getElem? (i := 3) rfl)) (fun _ h9 => h9) rfl dX4_addTrain_60 ?_
        refine z_get (C := RX0) (T := TX0) (N := 9) mx mb mts (in_X4_addTrain_X0) mo hK zgw (4 + 15 * 0 + 0) ((wB_get 0 0 (by omega) (by omega)).trans wR_0) rfl 6 (by decide) (mts _ (List.mem_of_getElem? (i := 4) rfl)) (fun _ h9 => h9) rfl dX4_addTrain_63 ?_
        refine z_top (show ((uR S2 0 u56) 0) 0 0 = f 2 + 1 from by rw [uR_s]; exact hu56.1.2.2.1.trans (addT_2 (by omega))) ?_
        refine z_iconst mx mb dX4_addTrain_66 ?_
        refine z_isub mx mb dX4_addTrain_67 ?_
        refine z_top (show (f 2 + 1) - 1 = f 2 from by omega) ?_
        rw [hQ]
        exact z_retI mx mb mr mlk hK (a2, uR S2 0 u56) (by exact ⟨rfl, v0, v1, by show Rel _ (uR S2 0 u56 0); rw [uR_s]; exact hu56, by show Rel f (uR S2 0 u56 (2 + (if sc = 4 then 3 else sc.toNat))); rw [uR_n (by omega)]; exact v4, fun j hj => (by show uR S2 0 u56 (2 + j) = _; rw [uR_n (by omega)]; exact v5 j hj)⟩) rfl dX4_addTrain_68
      · skip
        exact absurd hf (b2z_e c34)
    · skip
      exact absurd c13 (by omega)
  subst hQ
  subst hw0
  exact hstart

theorem in_X4_pass_X0 : ∀ w ∈ wsX00, w ∈ wsX4_pass := by decide +kernel
theorem in_X4_pass_X4 : ∀ w ∈ wsX40, w ∈ wsX4_pass := by decide +kernel
set_option maxRecDepth 100000 in
set_option maxHeartbeats 4000000 in
theorem c_X4_pass (l : Launch) (D : va_G) (sz : Nat) (y : Nat → ClassId) (o : Nat → Nat) (a : Nat → Nat → Nat) (S : Nat → Nat → Int → Int) (tb : Nat → Nat) (x : Int → Int) (ln sc : Int) (f : Int → Int) (n : Int) (hR : Rel f (S 0)) (hI : Inv 100000 f) (kp : Kp f) (hsc : 0 ≤ sc ∧ sc ≤ 4) (hn9 : 1 ≤ n ∧ n ≤ 500) (h39 : f 3 + n ≤ 100000) : Met l yX4_pass wsX4_pass ({ frames := 5, cells := 0, slots := 0, locals := 113 } : Room) (zPw D vwCl (zT y) (wBq y o a S tb x ln sc (sav a) p6) sz [.ref (o 0), .int (iZ n)]) (va_Qi (fun (r : Int32) (u : (Nat → Nat → Nat) × (Nat → Nat → Int → Int)) => r = iZ (ticks f n.toNat 8 - f 8) ∧ u.1 0 = a 0 ∧ u.1 1 = a 1 ∧ Rel (ticks f n.toNat) (u.2 0) ∧ Rel f (u.2 (2 + (if sc = 4 then 3 else sc.toNat))) ∧ ∀ j : Nat, j < (if sc = 4 then 3 else sc.toNat) → u.2 (2 + j) = S (2 + j + (if sc = 4 then 1 else 0))) (zB D vwCl (zT y) (wBq y o a S tb x ln sc (sav a) p6) sz (fun u : (Nat → Nat → Nat) × (Nat → Nat → Int → Int) => wBq y o u.1 u.2 tb x ln (smS sc) (sav u.1) p6)) (va_A (wBq y o a S tb x ln sc (sav a) p6) sz)) 0 0 (va_A (wBq y o a S tb x ln sc (sav a) p6) sz) := by
  refine z_headW (cc := cX4_pass) (maxL := 4) (ret := (some .int)) [(0, .ref (o 0)), (1, .int (iZ n))] rfl (Nat.le_of_ble_eq_true rfl) (by decide +kernel) rfl ?_
  intro pp ee ss mm below meth cd mx mb mr mml mo mts mlk hK hname hsz hA
  generalize ([.ref (o 0), .int (iZ n)] : List Value).toArray = args at mts ⊢
  obtain ⟨wst, hw0⟩ : ∃ wst, wst = wBq y o a S tb x ln sc (sav a) p6 := ⟨_, rfl⟩
  have hA : ∀ q, ss.heap.size ≤ q → va_A wst sz q := by rw [hw0]; exact hA
  obtain ⟨Q, hQ⟩ : ∃ Q, Q = MQ below (va_Qi (fun (r : Int32) (u : (Nat → Nat → Nat) × (Nat → Nat → Int → Int)) => r = iZ (ticks f n.toNat 8 - f 8) ∧ u.1 0 = a 0 ∧ u.1 1 = a 1 ∧ Rel (ticks f n.toNat) (u.2 0) ∧ Rel f (u.2 (2 + (if sc = 4 then 3 else sc.toNat))) ∧ ∀ j : Nat, j < (if sc = 4 then 3 else sc.toNat) → u.2 (2 + j) = S (2 + j + (if sc = 4 then 1 else 0))) (zB D vwCl (zT y) wst sz (fun u : (Nat → Nat → Nat) × (Nat → Nat → Int → Int) => wBq y o u.1 u.2 tb x ln (smS sc) (sav u.1) p6)) (va_A wst sz)) args ss 0 0 (va_A wst sz) := ⟨_, rfl⟩
  have hstart : Gz pp l ee ({ frames := 5, cells := 0, slots := 0, locals := 113 } : Room) ss mm args below meth cd 4 0 0 Q (Zw D vwCl (va_A wst sz) ss (wBq y o a S tb x ln sc (sav a) p6)) 0 [(0, .ref (o 0)), (1, .int (iZ n))] [] := by
    obtain ⟨hW, hN, hT⟩ := (Inv_Jy hI).f
    obtain ⟨w0, w1, w2, w3, w4, w5, w6⟩ := id hW
    obtain ⟨n3, n4, n5, n6, n7, n8, n9, n10⟩ := id hN
    obtain ⟨⟨r0, r1, r2, r3, r4⟩, rc, rb, ⟨s0, s1, s2, s3⟩, rt, rl⟩ := id hR
    obtain ⟨kA, hG, hS9⟩ := id kp
    refine z_iload_n mx mb dX4_pass_0 rfl 1 rfl ?_
    refine z_iconst mx mb dX4_pass_1 ?_
    refine z_icmp_lt (tgt := 12) mx mb (by omega) (by omega) dX4_pass_2 (by decide) (fun c2 => ?_) (fun c2 => ?_)
    · skip
      exact absurd c2 (by omega)
    · skip
      refine z_iload_n mx mb dX4_pass_5 rfl 1 rfl ?_
      refine z_sipush mx mb dX4_pass_6 (by decide +kernel) ?_
      refine z_icmp_le (tgt := 22) mx mb (by omega) (by omega) dX4_pass_9 (by decide) (fun c9 => ?_) (fun c9 => ?_)
      · skip
        refine z_aload_n mx mb dX4_pass_22 rfl 0 rfl ?_
        refine z_get (C := RX4) (T := TX4) (N := 5) mx mb mts (in_X4_pass_X4) mo hK zgw 0 wB_0 rfl 0 (by decide) (mts _ (List.mem_of_getElem? (i := 5) rfl)) (fun _ h9 => h9) rfl dX4_pass_23 ?_
        refine z_get (C := RX0) (T := TX0) (N := 9) mx mb mts (in_X4_pass_X0) mo hK zgw (4 + 15 * 0 + 0) ((wB_get 0 0 (by omega) (by omega)).trans wR_0) rfl 7 (by decide) (mts _ (List.mem_of_getElem? (i := 6) rfl)) (fun _ h9 => h9) rfl dX4_pass_26 ?_
        refine z_iload_n mx mb dX4_pass_29 rfl 1 rfl ?_
        refine z_iadd mx mb dX4_pass_30 ?_
        refine z_ldc (z := 100000) mx mb mo (mts _ (List.mem_of_getElem? (i := 7) rfl)) (by decide +kernel) dX4_pass_31 ?_
        refine z_icmp_le (tgt := 46) mx mb (by omega) (by omega) dX4_pass_33 (by decide) (fun c33 => ?_) (fun c33 => ?_)
        · skip
          refine z_aload_n mx mb dX4_pass_46 rfl 0 rfl ?_
          refine z_callV0 (As := []) (rest := []) ⟨mx, mb, mml, mo, mts⟩ hK hA (fun sz => c_X4_save l D sz y o a S tb x ln sc f hsc hR hW) (cwV 0 mts gX4_pass_X4_save rfl rfl rfl (by decide +kernel) ⟨Nat.le_of_ble_eq_true rfl, Nat.le_of_ble_eq_true rfl⟩) 0 wB_0 rfl rfl rfl rfl (Nat.le_of_ble_eq_true rfl) ⟨Nat.zero_le _, Nat.zero_le _⟩ dX4_pass_47 (fun u47 hu47 => ?_)
          obtain ⟨a2, S2⟩ := u47
          obtain ⟨v0, v1, v2, v3, v4, v5⟩ := hu47
          replace v0 : a2 0 = a 0 := v0
          replace v1 : a2 1 = a 1 := v1
          replace v2 : S2 0 = S 0 := v2
          replace v3 : S2 1 = S 1 := v3
          replace v4 : Rel f (S2 (2 + (if sc = 4 then 3 else sc.toNat))) := v4
          replace v5 : ∀ j : Nat, j < (if sc = 4 then 3 else sc.toNat) → S2 (2 + j) = S (2 + j + (if sc = 4 then 1 else 0)) := v5
          have hR2 : Rel f (S2 0) := (by rw [v2]; exact hR)
          show Gz pp l ee ({ frames := 5, cells := 0, slots := 0, locals := 113 } : Room) ss mm args below meth cd 4 0 0 Q (Zw D vwCl (va_A wst sz) ss (wBq y o a2 S2 tb x ln (smS sc) (sav a2) p6)) 50 [(0, .ref (o 0)), (1, .int (iZ n))] []
          refine z_aload_n mx mb dX4_pass_50 rfl 0 rfl ?_
          refine z_get (C := RX4) (T := TX4) (N := 5) mx mb mts (in_X4_pass_X4) mo hK zgw 0 wB_0 rfl 0 (by decide) (mts _ (List.mem_of_getElem? (i := 5) rfl)) (fun _ h9 => h9) rfl dX4_pass_51 ?_
          refine z_get (C := RX0) (T := TX0) (N := 9) mx mb mts (in_X4_pass_X0) mo hK zgw (4 + 15 * 0 + 0) ((wB_get 0 0 (by omega) (by omega)).trans wR_0) rfl 8 (by decide) (mts _ (List.mem_of_getElem? (i := 8) rfl)) (fun _ h9 => h9) rfl dX4_pass_54 ?_
          refine z_top (show (S2 0) 0 2 = f 8 from by exact hR2.1.2.2.2.2) ?_
          refine z_istore_n mx mb dX4_pass_57 rfl (by decide) [(2, .int (iZ (f 8))), (0, .ref (o 0)), (1, .int (iZ n))] rfl ?_
          refine z_iconst mx mb dX4_pass_58 ?_
          refine z_istore_n mx mb dX4_pass_59 rfl (by decide) [(3, .int (iZ 0)), (2, .int (iZ (f 8))), (0, .ref (o 0)), (1, .int (iZ n))] rfl ?_
          have lp60 : ∀ (nn : Nat) (i : Nat) (Si : Nat → Nat → Int → Int) (x3 : Int), n.toNat - i < nn → ((i : Int) ≤ n) → (x3 = (i : Int)) → (Rel (ticks f i) (Si 0)) → (∀ j : Nat, j ≠ 0 → Si j = S2 j) → Gz pp l ee ({ frames := 5, cells := 0, slots := 0, locals := 113 } : Room) ss mm args below meth cd 4 0 0 Q (Zw D vwCl (va_A wst sz) ss (wBq y o a2 Si tb x ln (smS sc) (sav a2) p6)) 60 [(0, .ref (o 0)), (1, .int (iZ n)), (2, .int (iZ (f 8))), (3, .int (iZ x3))] [] := by
            intro nn
            induction nn with
            | zero => exact fun i Si x3 hm => absurd hm (Nat.not_lt_zero _)
            | succ nn ih =>
              intro i Si x3 hm hi e3 hRi hso
              have ix : InvX (ticks f i) := ticks_InvX (Inv_le hI (by omega)) i (by omega)
              have kx : Kp (ticks f i) := ticks_keep hI kp i (by omega)
              refine z_iload_n mx mb dX4_pass_60 rfl 3 rfl ?_
              refine z_iload_n mx mb dX4_pass_61 rfl 1 rfl ?_
              refine z_icmp_ge (tgt := 78) mx mb (by omega) (by omega) dX4_pass_62 (by decide) (fun c62 => ?_) (fun c62 => ?_)
              · skip
                have hin : n.toNat = i := by omega
                refine z_aload_n mx mb dX4_pass_78 rfl 0 rfl ?_
                refine z_get (C := RX4) (T := TX4) (N := 5) mx mb mts (in_X4_pass_X4) mo hK zgw 0 wB_0 rfl 0 (by decide) (mts _ (List.mem_of_getElem? (i := 5) rfl)) (fun _ h9 => h9) rfl dX4_pass_79 ?_
                refine z_get (C := RX0) (T := TX0) (N := 9) mx mb mts (in_X4_pass_X0) mo hK zgw (4 + 15 * 0 + 0) ((wB_get 0 0 (by omega) (by omega)).trans wR_0) rfl 8 (by decide) (mts _ (List.mem_of_getElem? (i := 8) rfl)) (fun _ h9 => h9) rfl dX4_pass_82 ?_
                refine z_top (show (Si 0) 0 2 = ticks f i 8 from by exact hRi.1.2.2.2.2) ?_
                refine z_iload_n mx mb dX4_pass_85 rfl 2 rfl ?_
                refine z_isub mx mb dX4_pass_86 ?_
                rw [hQ]
                exact z_retI mx mb mr mlk hK (a2, Si) (by exact ⟨by rw [hin], v0, v1, by show Rel (ticks f n.toNat) (Si 0); rw [hin]; exact hRi, by show Rel f (Si (2 + (if sc = 4 then 3 else sc.toNat))); rw [hso _ (by omega)]; exact v4, fun j hj => (by show Si (2 + j) = _; rw [hso _ (by omega)]; exact v5 j hj)⟩) rfl dX4_pass_87
              · skip
                refine z_aload_n mx mb dX4_pass_65 rfl 0 rfl ?_
                refine z_get (C := RX4) (T := TX4) (N := 5) mx mb mts (in_X4_pass_X4) mo hK zgw 0 wB_0 rfl 0 (by decide) (mts _ (List.mem_of_getElem? (i := 5) rfl)) (fun _ h9 => h9) rfl dX4_pass_66 ?_
                refine z_rideV (j := 0) (As := []) (rest := []) (by omega) ⟨mx, mb, mml, mo, mts⟩ hK hA (fun sz => c_X0_tick l D sz y (a2 0) (Si 0) (ticks f i)  (by assumption) (by assumption) (by assumption)) (cwV 0 mts gX4_pass_X0_tick rfl rfl rfl (by decide +kernel) ⟨Nat.le_of_ble_eq_true rfl, Nat.le_of_ble_eq_true rfl⟩) rfl rfl (Nat.le_of_ble_eq_true rfl) ⟨Nat.zero_le _, Nat.zero_le _⟩ dX4_pass_69 (fun u69 hu69 => ?_)
                have hu69 : Rel (tick (ticks f i)) u69 := hu69
                show Gz pp l ee ({ frames := 5, cells := 0, slots := 0, locals := 113 } : Room) ss mm args below meth cd 4 0 0 Q (Zw D vwCl (va_A wst sz) ss (wBq y o a2 (uR Si 0 u69) tb x ln (smS sc) (sav a2) p6)) 72 [(0, .ref (o 0)), (1, .int (iZ n)), (2, .int (iZ (f 8))), (3, .int (iZ x3))] []
                obtain ⟨S3, eS3⟩ : ∃ z, z = uR Si 0 u69 := ⟨_, rfl⟩
                rw [← eS3]
                have z1 : S3 0 = u69 := (by rw [eS3, uR_s])
                have hr3 : Rel (ticks f (i + 1)) (S3 0) := (by rw [z1]; exact hu69)
                have z0 : ∀ j : Nat, j ≠ 0 → S3 j = S2 j := fun j hj => (by rw [eS3, uR_n hj]; exact hso j hj)
                refine z_iinc mx mb dX4_pass_72 3 rfl (by decide) [(3, .int (iZ (x3 + 1))), (0, .ref (o 0)), (1, .int (iZ n)), (2, .int (iZ (f 8)))] rfl ?_
                refine z_goto (tgt := 60) mx mb dX4_pass_75 (by decide) ?_
                refine z_lv [1, 2, 3, 0] rfl ?_
                exact ih (i + 1) _ _ (by omega) (by omega) (by omega) (by exact hr3) (by exact z0)
          refine z_lv [2, 3, 1, 0] rfl ?_
          exact lp60 _ 0 S2 0 (Nat.lt_succ_self _) (by omega) (by rfl) (by exact hR2) (by exact fun j _ => rfl)
        · skip
          exact absurd c33 (by omega)
      · skip
        exact absurd c9 (by omega)
  subst hQ
  subst hw0
  exact hstart
