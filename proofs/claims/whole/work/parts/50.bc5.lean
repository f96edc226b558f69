theorem in_X4_takeTrain_X0 : ∀ w ∈ wsX00, w ∈ wsX4_takeTrain := by decide +kernel
theorem in_X4_takeTrain_X4 : ∀ w ∈ wsX40, w ∈ wsX4_takeTrain := by decide +kernel
set_option maxRecDepth 100000 in
set_option maxHeartbeats 4000000 in
theorem c_X4_takeTrain (l : Launch) (D : va_G) (sz : Nat) (y : Nat → ClassId) (o : Nat → Nat) (a : Nat → Nat → Nat) (S : Nat → Nat → Int → Int) (tb : Nat → Nat) (x : Int → Int) (ln sc : Int) (f : Int → Int) (hR : Rel f (S 0)) (hI : Inv 100000 f) (kp : Kp f) (hsc : 0 ≤ sc ∧ sc ≤ 4) (h2 : f 2 ≠ 0) : Met l yX4_takeTrain wsX4_takeTrain ({ frames := 4, cells := 0, slots := 0, locals := 113 } : Room) (zPw D vwCl (zT y) (wBq y o a S tb x ln sc (sav a) p6) sz [.ref (o 0)]) (va_Qi (fun (r : Int32) (u : (Nat → Nat → Nat) × (Nat → Nat → Int → Int)) => r = iZ (f 2 - 1) ∧ u.1 0 = a 0 ∧ u.1 1 = a 1 ∧ Rel (zu f 2 (f 2 - 1)) (u.2 0) ∧ Rel f (u.2 (2 + (if sc = 4 then 3 else sc.toNat))) ∧ ∀ j : Nat, j < (if sc = 4 then 3 else sc.toNat) → u.2 (2 + j) = S (2 + j + (if sc = 4 then 1 else 0))) (zB D vwCl (zT y) (wBq y o a S tb x ln sc (sav a) p6) sz (fun u : (Nat → Nat → Nat) × (Nat → Nat → Int → Int) => wBq y o u.1 u.2 tb x ln (smS sc) (sav u.1) p6)) (va_A (wBq y o a S tb x ln sc (sav a) p6) sz)) 0 0 (va_A (wBq y o a S tb x ln sc (sav a) p6) sz) := by
  refine z_headW (cc := cX4_takeTrain) (maxL := 1) (ret := (some .int)) [(0, .ref (o 0))] rfl (Nat.le_of_ble_eq_true rfl) (by decide +kernel) rfl ?_
  intro pp ee ss mm below meth cd mx mb mr mml mo mts mlk hK hname hsz hA
  generalize ([.ref (o 0)] : List Value).toArray = args at mts ⊢
  obtain ⟨wst, hw0⟩ : ∃ wst, wst = wBq y o a S tb x ln sc (sav a) p6 := ⟨_, rfl⟩
  have hA : ∀ q, ss.heap.size ≤ q → va_A wst sz q := by rw [hw0]; exact hA
  obtain ⟨Q, hQ⟩ : ∃ Q, Q = MQ below (va_Qi (fun (r : Int32) (u : (Nat → Nat → Nat) × (Nat → Nat → Int → Int)) => r = iZ (f 2 - 1) ∧ u.1 0 = a 0 ∧ u.1 1 = a 1 ∧ Rel (zu f 2 (f 2 - 1)) (u.2 0) ∧ Rel f (u.2 (2 + (if sc = 4 then 3 else sc.toNat))) ∧ ∀ j : Nat, j < (if sc = 4 then 3 else sc.toNat) → u.2 (2 + j) = S (2 + j + (if sc = 4 then 1 else 0))) (zB D vwCl (zT y) wst sz (fun u : (Nat → Nat → Nat) × (Nat → Nat → Int → Int) => wBq y o u.1 u.2 tb x ln (smS sc) (sav u.1) p6)) (va_A wst sz)) args ss 0 0 (va_A wst sz) := ⟨_, rfl⟩
  have hstart : Gz pp l ee ({ frames := 4, cells := 0, slots := 0, locals := 113 } : Room) ss mm args below meth cd 1 0 0 Q (Zw D vwCl (va_A wst sz) ss (wBq y o a S tb x ln sc (sav a) p6)) 0 [(0, .ref (o 0))] [] := by
    obtain ⟨hW, hN, hT⟩ := (Inv_Jy hI).f
    obtain ⟨w0, w1, w2, w3, w4, w5, w6⟩ := id hW
    obtain ⟨n3, n4, n5, n6, n7, n8, n9, n10⟩ := id hN
    obtain ⟨⟨r0, r1, r2, r3, r4⟩, rc, rb, ⟨s0, s1, s2, s3⟩, rt, rl⟩ := id hR
    obtain ⟨kA, hG, hS9⟩ := id kp
    refine z_aload_n mx mb dX4_takeTrain_0 rfl 0 rfl ?_
    refine z_get (C := RX4) (T := TX4) (N := 5) mx mb mts (in_X4_takeTrain_X4) mo hK zgw 0 wB_0 rfl 0 (by decide) (mts _ (List.mem_of_getElem? (i := 3) rfl)) (fun _ h9 => h9) rfl dX4_takeTrain_1 ?_
    refine z_get (C := RX0) (T := TX0) (N := 9) mx mb mts (in_X4_takeTrain_X0) mo hK zgw (4 + 15 * 0 + 0) ((wB_get 0 0 (by omega) (by omega)).trans wR_0) rfl 6 (by decide) (mts _ (List.mem_of_getElem? (i := 4) rfl)) (fun _ h9 => h9) rfl dX4_takeTrain_4 ?_
    refine z_top (show (S 0) 0 0 = f 2 from by exact r2) ?_
    refine z_if_ne (tgt := 20) mx mb (by omega) dX4_takeTrain_7 (by decide) (fun c7 => ?_) (fun c7 => ?_)
    · skip
      refine z_aload_n mx mb dX4_takeTrain_20 rfl 0 rfl ?_
      refine z_callV0 (As := []) (rest := []) ⟨mx, mb, mml, mo, mts⟩ hK hA (fun sz => c_X4_save l D sz y o a S tb x ln sc f hsc hR hW) (cwV 0 mts gX4_takeTrain_X4_save rfl rfl rfl (by decide +kernel) ⟨Nat.le_of_ble_eq_true rfl, Nat.le_of_ble_eq_true rfl⟩) 0 wB_0 rfl rfl rfl rfl (Nat.le_of_ble_eq_true rfl) ⟨Nat.zero_le _, Nat.zero_le _⟩ dX4_takeTrain_21 (fun u21 hu21 => ?_)
      obtain ⟨a2, S2⟩ := u21
      obtain ⟨v0, v1, v2, v3, v4, v5⟩ := hu21
      replace v0 : a2 0 = a 0 := v0
      replace v1 : a2 1 = a 1 := v1
      replace v2 : S2 0 = S 0 := v2
      replace v3 : S2 1 = S 1 := v3
      replace v4 : Rel f (S2 (2 + (if sc = 4 then 3 else sc.toNat))) := v4
      replace v5 : ∀ j : Nat, j < (if sc = 4 then 3 else sc.toNat) → S2 (2 + j) = S (2 + j + (if sc = 4 then 1 else 0)) := v5
      have hR2 : Rel f (S2 0) := (by rw [v2]; exact hR)
      show Gz pp l ee ({ frames := 4, cells := 0, slots := 0, locals := 113 } : Room) ss mm args below meth cd 1 0 0 Q (Zw D vwCl (va_A wst sz) ss (wBq y o a2 S2 tb x ln (smS sc) (sav a2) p6)) 24 [(0, .ref (o 0))] []
      refine z_aload_n mx mb dX4_takeTrain_24 rfl 0 rfl ?_
      refine z_get (C := RX4) (T := TX4) (N := 5) mx mb mts (in_X4_takeTrain_X4) mo hK zgw 0 wB_0 rfl 0 (by decide) (mts _ (List.mem_of_getElem? (i := 3) rfl)) (fun _ h9 => h9) rfl dX4_takeTrain_25 ?_
      refine z_dup mx mb dX4_takeTrain_28 rfl ?_
      refine z_get (C := RX0) (T := TX0) (N := 9) mx mb mts (in_X4_takeTrain_X0) mo hK zgw (4 + 15 * 0 + 0) ((wB_get 0 0 (by omega) (by omega)).trans wR_0) rfl 6 (by decide) (mts _ (List.mem_of_getElem? (i := 4) rfl)) (fun _ h9 => h9) rfl dX4_takeTrain_29 ?_
      refine z_top (show (S2 0) 0 0 = f 2 from by rw [v2]; exact r2) ?_
      refine z_iconst mx mb dX4_takeTrain_32 ?_
      refine z_isub mx mb dX4_takeTrain_33 ?_
      refine z_put (ty := .int) (C := RX0) (T := TX0) (N := 9) mx mb mts (in_X4_takeTrain_X0) tyX0_ok nmX0 mo hK (4 + 15 * 0 + 0) ((wB_get 0 0 (by omega) (by omega)).trans wR_0) rfl 6 (by decide) (mts _ (List.mem_of_getElem? (i := 4) rfl)) (fun _ h9 => h9) rfl (by decide +kernel) rfl rfl (Nat.le_of_ble_eq_true rfl) dX4_takeTrain_34 (wBq y o a2 (uR S2 0 (uc (S2 0) 0 (zu ((S2 0) 0) 0 ((f 2) - 1)))) tb x ln (smS sc) (sav a2) p6) (wB_set 0 0 (by omega) (by omega) wR_s0_0) ?_
      refine z_aload_n mx mb dX4_takeTrain_37 rfl 0 rfl ?_
      refine z_get (C := RX4) (T := TX4) (N := 5) mx mb mts (in_X4_takeTrain_X4) mo hK zgw 0 wB_0 rfl 0 (by decide) (mts _ (List.mem_of_getElem? (i := 3) rfl)) (fun _ h9 => h9) rfl dX4_takeTrain_38 ?_
      refine z_get (C := RX0) (T := TX0) (N := 9) mx mb mts (in_X4_takeTrain_X0) mo hK zgw (4 + 15 * 0 + 0) ((wB_get 0 0 (by omega) (by omega)).trans wR_0) rfl 6 (by decide) (mts _ (List.mem_of_getElem? (i := 4) rfl)) (fun _ h9 => h9) rfl dX4_takeTrain_41 ?_
      refine z_top (show ((uR S2 0 (uc (S2 0) 0 (zu ((S2 0) 0) 0 ((f 2) - 1)))) 0) 0 0 = f 2 - 1 from by rw [uR_s]; rfl) ?_
      rw [hQ]
      exact z_retI mx mb mr mlk hK (a2, uR S2 0 (uc (S2 0) 0 (zu ((S2 0) 0) 0 ((f 2) - 1)))) (by exact ⟨rfl, v0, v1, by show Rel _ (uR S2 0 (uc (S2 0) 0 (zu ((S2 0) 0) 0 ((f 2) - 1))) 0); rw [uR_s]; exact rel_take hR2 hW h2, by show Rel f (uR S2 0 (uc (S2 0) 0 (zu ((S2 0) 0) 0 ((f 2) - 1))) (2 + (if sc = 4 then 3 else sc.toNat))); rw [uR_n (by omega)]; exact v4, fun j hj => (by show uR S2 0 (uc (S2 0) 0 (zu ((S2 0) 0) 0 ((f 2) - 1))) (2 + j) = _; rw [uR_n (by omega)]; exact v5 j hj)⟩) rfl dX4_takeTrain_44
    · skip
      exact absurd c7 (by omega)
  subst hQ
  subst hw0
  exact hstart
