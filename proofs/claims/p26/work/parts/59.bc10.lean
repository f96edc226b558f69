theorem in_X4_parse_X4 : ∀ w ∈ wsX40, w ∈ wsX4_parse := by decide +kernel
set_option maxRecDepth 100000 in
set_option maxHeartbeats 4000000 in
theorem c_X4_parse_bad (l : Launch) (D : va_G) (sz : Nat) (y : Nat → ClassId) (o : Nat → Nat) (a : Nat → Nat → Nat) (S : Nat → Nat → Int → Int) (tb : Nat → Nat) (x : Int → Int) (ln sc : Int) (f : Int → Int) (hl : 0 ≤ ln ∧ ln ≤ 90) (htx : ∀ k : Int, 0 ≤ k → k < 90 → 0 ≤ x k ∧ x k ≤ 127) (hft : fault x ln ≠ -1) : Met l yX4_parse wsX4_parse ({ frames := 2, cells := 0, slots := 0, locals := 46 } : Room) (zPw D vwCl (zT y) (wBq y o a S tb x ln sc (sav a) p6) sz [.ref (o 0)]) (va_Qi (fun (r : Int32) (_ : Unit) => r = iZ (-10 - fault x ln)) (zB D vwCl (zT y) (wBq y o a S tb x ln sc (sav a) p6) sz (fun _ : Unit => wBq y o a S tb x ln sc (sav a) p6)) (va_A (wBq y o a S tb x ln sc (sav a) p6) sz)) 0 0 (va_A (wBq y o a S tb x ln sc (sav a) p6) sz) := by
  refine z_headW (cc := cX4_parse) (maxL := 2) (ret := (some .int)) [(0, .ref (o 0))] rfl (Nat.le_of_ble_eq_true rfl) (by decide +kernel) rfl ?_
  intro pp ee ss mm below meth cd mx mb mr mml mo mts mlk hK hname hsz hA
  generalize ([.ref (o 0)] : List Value).toArray = args at mts ⊢
  obtain ⟨wst, hw0⟩ : ∃ wst, wst = wBq y o a S tb x ln sc (sav a) p6 := ⟨_, rfl⟩
  have hA : ∀ q, ss.heap.size ≤ q → va_A wst sz q := by rw [hw0]; exact hA
  obtain ⟨Q, hQ⟩ : ∃ Q, Q = MQ below (va_Qi (fun (r : Int32) (_ : Unit) => r = iZ (-10 - fault x ln)) (zB D vwCl (zT y) wst sz (fun _ : Unit => wBq y o a S tb x ln sc (sav a) p6)) (va_A wst sz)) args ss 0 0 (va_A wst sz) := ⟨_, rfl⟩
  have hstart : Gz pp l ee ({ frames := 2, cells := 0, slots := 0, locals := 46 } : Room) ss mm args below meth cd 2 0 0 Q (Zw D vwCl (va_A wst sz) ss (wBq y o a S tb x ln sc (sav a) p6)) 0 [(0, .ref (o 0))] [] := by
    have fr := fault_rng (x := x) hl
    refine z_aload_n mx mb dX4_parse_0 rfl 0 rfl ?_
    refine z_get (C := RX4) (T := TX4) (N := 5) mx mb mts (in_X4_parse_X4) mo hK zgw 0 wB_0 rfl 3 (by decide) (mts _ (List.mem_of_getElem? (i := 1) rfl)) (fun _ h9 => h9) rfl dX4_parse_1 ?_
    refine z_callP (As := []) (rest := []) ⟨mx, mb, mml, mo, mts⟩ hK zgw (c_X2_errorPosition l D y tb x ln  (by omega) (by assumption)) (cwV 0 mts gX4_parse_X2_errorPosition rfl rfl rfl (by decide +kernel) ⟨Nat.le_of_ble_eq_true rfl, Nat.le_of_ble_eq_true rfl⟩) wB_tx 2 wB_2 rfl rfl rfl rfl (Nat.le_of_ble_eq_true rfl) ⟨Nat.zero_le _, Nat.zero_le _⟩ dX4_parse_4 ?_
    refine z_istore_n mx mb dX4_parse_7 rfl (by decide) [(1, .int (iZ (fault x ln))), (0, .ref (o 0))] rfl ?_
    refine z_iload_n mx mb dX4_parse_8 rfl 0 rfl ?_
    refine z_iconst mx mb dX4_parse_9 ?_
    refine z_icmp_eq (tgt := 18) mx mb (by omega) (by omega) dX4_parse_10 (by decide) (fun c10 => ?_) (fun c10 => ?_)
    · skip
      exact absurd c10 (by omega)
    · skip
      refine z_bipush mx mb dX4_parse_13 (by decide +kernel) ?_
      refine z_iload_n mx mb dX4_parse_15 rfl 0 rfl ?_
      refine z_isub mx mb dX4_parse_16 ?_
      rw [hQ]
      exact z_retI mx mb mr mlk hK () (by rfl) rfl dX4_parse_17
  subst hQ
  subst hw0
  exact hstart

theorem in_X4_parse_X0 : ∀ w ∈ wsX00, w ∈ wsX4_parse := by decide +kernel
theorem in_X4_parse_X1 : ∀ w ∈ wsX10, w ∈ wsX4_parse := by decide +kernel
set_option maxRecDepth 100000 in
set_option maxHeartbeats 4000000 in
theorem c_X4_parse (l : Launch) (D : va_G) (sz : Nat) (y : Nat → ClassId) (o : Nat → Nat) (a : Nat → Nat → Nat) (S : Nat → Nat → Int → Int) (tb : Nat → Nat) (x : Int → Int) (ln sc : Int) (f : Int → Int) (hR : Rel f (S 0)) (hI : Inv 100000 f) (kp : Kp f) (hsc : 0 ≤ sc ∧ sc ≤ 4) (hl : 0 ≤ ln ∧ ln ≤ 90) (htx : ∀ k : Int, 0 ≤ k → k < 90 → 0 ≤ x k ∧ x k ≤ 127) (hft : fault x ln = -1) : Met l yX4_parse wsX4_parse ({ frames := 4, cells := 0, slots := 0, locals := 113 } : Room) (zPw D vwCl (zT y) (wBq y o a S tb x ln sc (sav a) p6) sz [.ref (o 0)]) (va_Qi (fun (r : Int32) (u : (Nat → Nat → Nat) × (Nat → Nat → Int → Int)) => r = iZ (ln / 2) ∧ u.1 0 = a 0 ∧ u.1 1 = a 1 ∧ Rel (parsed f x (ln / 2).toNat) (u.2 0) ∧ Rel f (u.2 (2 + (if sc = 4 then 3 else sc.toNat))) ∧ ∀ j : Nat, j < (if sc = 4 then 3 else sc.toNat) → u.2 (2 + j) = S (2 + j + (if sc = 4 then 1 else 0))) (zB D vwCl (zT y) (wBq y o a S tb x ln sc (sav a) p6) sz (fun u : (Nat → Nat → Nat) × (Nat → Nat → Int → Int) => wBq y o u.1 u.2 tb x ln (smS sc) (sav u.1) p6)) (va_A (wBq y o a S tb x ln sc (sav a) p6) sz)) 0 0 (va_A (wBq y o a S tb x ln sc (sav a) p6) sz) := by
  refine z_headW (cc := cX4_parse) (maxL := 2) (ret := (some .int)) [(0, .ref (o 0))] rfl (Nat.le_of_ble_eq_true rfl) (by decide +kernel) rfl ?_
  intro pp ee ss mm below meth cd mx mb mr mml mo mts mlk hK hname hsz hA
  generalize ([.ref (o 0)] : List Value).toArray = args at mts ⊢
  obtain ⟨wst, hw0⟩ : ∃ wst, wst = wBq y o a S tb x ln sc (sav a) p6 := ⟨_, rfl⟩
  have hA : ∀ q, ss.heap.size ≤ q → va_A wst sz q := by rw [hw0]; exact hA
  obtain ⟨Q, hQ⟩ : ∃ Q, Q = MQ below (va_Qi (fun (r : Int32) (u : (Nat → Nat → Nat) × (Nat → Nat → Int → Int)) => r = iZ (ln / 2) ∧ u.1 0 = a 0 ∧ u.1 1 = a 1 ∧ Rel (parsed f x (ln / 2).toNat) (u.2 0) ∧ Rel f (u.2 (2 + (if sc = 4 then 3 else sc.toNat))) ∧ ∀ j : Nat, j < (if sc = 4 then 3 else sc.toNat) → u.2 (2 + j) = S (2 + j + (if sc = 4 then 1 else 0))) (zB D vwCl (zT y) wst sz (fun u : (Nat → Nat → Nat) × (Nat → Nat → Int → Int) => wBq y o u.1 u.2 tb x ln (smS sc) (sav u.1) p6)) (va_A wst sz)) args ss 0 0 (va_A wst sz) := ⟨_, rfl⟩
  have hstart : Gz pp l ee ({ frames := 4, cells := 0, slots := 0, locals := 113 } : Room) ss mm args below meth cd 2 0 0 Q (Zw D vwCl (va_A wst sz) ss (wBq y o a S tb x ln sc (sav a) p6)) 0 [(0, .ref (o 0))] [] := by
    obtain ⟨hW, hN, hT⟩ := (Inv_Jy hI).f
    obtain ⟨w0, w1, w2, w3, w4, w5, w6⟩ := id hW
    obtain ⟨n3, n4, n5, n6, n7, n8, n9, n10⟩ := id hN
    obtain ⟨⟨r0, r1, r2, r3, r4⟩, rc, rb, ⟨s0, s1, s2, s3⟩, rt, rl⟩ := id hR
    have fr := fault_rng (x := x) hl
    obtain ⟨q1, q2, q3, q4, q5⟩ := fault_ok hl hft
    have en : ((ln / 2).toNat : Int) = ln / 2 := by omega
    have e2n : ln.toNat = 2 * (ln / 2).toNat := by omega
    rw [e2n] at q4 q5
    refine z_aload_n mx mb dX4_parse_0 rfl 0 rfl ?_
    refine z_get (C := RX4) (T := TX4) (N := 5) mx mb mts (in_X4_parse_X4) mo hK zgw 0 wB_0 rfl 3 (by decide) (mts _ (List.mem_of_getElem? (i := 1) rfl)) (fun _ h9 => h9) rfl dX4_parse_1 ?_
    refine z_callP (As := []) (rest := []) ⟨mx, mb, mml, mo, mts⟩ hK zgw (c_X2_errorPosition l D y tb x ln  (by omega) (by assumption)) (cwV 0 mts gX4_parse_X2_errorPosition rfl rfl rfl (by decide +kernel) ⟨Nat.le_of_ble_eq_true rfl, Nat.le_of_ble_eq_true rfl⟩) wB_tx 2 wB_2 rfl rfl rfl rfl (Nat.le_of_ble_eq_true rfl) ⟨Nat.zero_le _, Nat.zero_le _⟩ dX4_parse_4 ?_
    refine z_istore_n mx mb dX4_parse_7 rfl (by decide) [(1, .int (iZ (fault x ln))), (0, .ref (o 0))] rfl ?_
    refine z_iload_n mx mb dX4_parse_8 rfl 0 rfl ?_
    refine z_iconst mx mb dX4_parse_9 ?_
    refine z_icmp_eq (tgt := 18) mx mb (by omega) (by omega) dX4_parse_10 (by decide) (fun c10 => ?_) (fun c10 => ?_)
    · skip
      refine z_aload_n mx mb dX4_parse_18 rfl 1 rfl ?_
      refine z_callV0 (As := []) (rest := []) ⟨mx, mb, mml, mo, mts⟩ hK hA (fun sz => c_X4_save l D sz y o a S tb x ln sc f hsc hR hW) (cwV 0 mts gX4_parse_X4_save rfl rfl rfl (by decide +kernel) ⟨Nat.le_of_ble_eq_true rfl, Nat.le_of_ble_eq_true rfl⟩) 0 wB_0 rfl rfl rfl rfl (Nat.le_of_ble_eq_true rfl) ⟨Nat.zero_le _, Nat.zero_le _⟩ dX4_parse_19 (fun u19 hu19 => ?_)
      obtain ⟨a2, S2⟩ := u19
      obtain ⟨v0, v1, v2, v3, v4, v5⟩ := hu19
      replace v0 : a2 0 = a 0 := v0
      replace v1 : a2 1 = a 1 := v1
      replace v2 : S2 0 = S 0 := v2
      replace v3 : S2 1 = S 1 := v3
      replace v4 : Rel f (S2 (2 + (if sc = 4 then 3 else sc.toNat))) := v4
      replace v5 : ∀ j : Nat, j < (if sc = 4 then 3 else sc.toNat) → S2 (2 + j) = S (2 + j + (if sc = 4 then 1 else 0)) := v5
      have hR2 : Rel f (S2 0) := (by rw [v2]; exact hR)
      show Gz pp l ee ({ frames := 4, cells := 0, slots := 0, locals := 113 } : Room) ss mm args below meth cd 2 0 0 Q (Zw D vwCl (va_A wst sz) ss (wBq y o a2 S2 tb x ln (smS sc) (sav a2) p6)) 22 [(1, .int (iZ (fault x ln))), (0, .ref (o 0))] []
      refine z_aload_n mx mb dX4_parse_22 rfl 1 rfl ?_
      refine z_get (C := RX4) (T := TX4) (N := 5) mx mb mts (in_X4_parse_X4) mo hK zgw 0 wB_0 rfl 0 (by decide) (mts _ (List.mem_of_getElem? (i := 2) rfl)) (fun _ h9 => h9) rfl dX4_parse_23 ?_
      refine z_aload_n mx mb dX4_parse_26 rfl 1 rfl ?_
      refine z_get (C := RX4) (T := TX4) (N := 5) mx mb mts (in_X4_parse_X4) mo hK zgw 0 wB_0 rfl 3 (by decide) (mts _ (List.mem_of_getElem? (i := 1) rfl)) (fun _ h9 => h9) rfl dX4_parse_27 ?_
      refine z_begin (rest := []) ⟨mx, mb, mml, mo, mts⟩ hK hA (fun sz => c_X0_begin l D sz y (a2 0) (S2 0) tb x ln ((ln / 2).toNat) f (by omega) q5 q4 htx (by rw [v2]; exact ⟨s0, s1, s2, s3⟩)) (cwV 1 mts gX4_parse_X0_begin rfl rfl rfl (by decide +kernel) ⟨Nat.le_of_ble_eq_true rfl, Nat.le_of_ble_eq_true rfl⟩) (Nat.le_of_ble_eq_true rfl) ⟨Nat.zero_le _, Nat.zero_le _⟩ dX4_parse_30 (fun u30 hu30 => ?_)
      show Gz pp l ee ({ frames := 4, cells := 0, slots := 0, locals := 113 } : Room) ss mm args below meth cd 2 0 0 Q (Zw D vwCl (va_A wst sz) ss (wBq y o a2 (uR S2 0 u30) tb x ln (smS sc) (sav a2) p6)) 33 [(1, .int (iZ (fault x ln))), (0, .ref (o 0))] []
      refine z_aload_n mx mb dX4_parse_33 rfl 1 rfl ?_
      refine z_get (C := RX4) (T := TX4) (N := 5) mx mb mts (in_X4_parse_X4) mo hK zgw 0 wB_0 rfl 0 (by decide) (mts _ (List.mem_of_getElem? (i := 2) rfl)) (fun _ h9 => h9) rfl dX4_parse_34 ?_
      refine z_get (C := RX0) (T := TX0) (N := 9) mx mb mts (in_X4_parse_X0) mo hK zgw (4 + 15 * 0 + 0) ((wB_get 0 0 (by omega) (by omega)).trans wR_0) rfl 0 (by decide) (mts _ (List.mem_of_getElem? (i := 3) rfl)) (fun _ h9 => h9) rfl dX4_parse_37 ?_
      refine z_get (C := RX1) (T := TX1) (N := 6) mx mb mts (in_X4_parse_X1) mo hK zgw (4 + 15 * 0 + 1) ((wB_get 0 1 (by omega) (by omega)).trans wR_1) rfl 4 (by decide) (mts _ (List.mem_of_getElem? (i := 4) rfl)) (fun _ h9 => h9) rfl dX4_parse_40 ?_
      refine z_top (show ((uR S2 0 u30) 0) 1 0 = ln / 2 from by rw [uR_s]; exact hu30.1.1.trans ((parsed_at f x (ln / 2).toNat (by omega)).1.trans en)) ?_
      rw [hQ]
      exact z_retI mx mb mr mlk hK (a2, uR S2 0 u30) (by exact ⟨rfl, v0, v1, by show Rel _ (uR S2 0 u30 0); rw [uR_s]; exact hu30, by show Rel f (uR S2 0 u30 (2 + (if sc = 4 then 3 else sc.toNat))); rw [uR_n (by omega)]; exact v4, fun j hj => (by show uR S2 0 u30 (2 + j) = _; rw [uR_n (by omega)]; exact v5 j hj)⟩) rfl dX4_parse_43
    · skip
      exact absurd c10 (by omega)
  subst hQ
  subst hw0
  exact hstart
