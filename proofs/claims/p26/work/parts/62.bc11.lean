theorem in_X4_set_X0 : ∀ w ∈ wsX00, w ∈ wsX4_set := by decide +kernel
theorem in_X4_set_X4 : ∀ w ∈ wsX40, w ∈ wsX4_set := by decide +kernel
set_option maxRecDepth 100000 in
set_option maxHeartbeats 4000000 in
theorem c_X4_set (l : Launch) (D : va_G) (sz : Nat) (y : Nat → ClassId) (o : Nat → Nat) (a : Nat → Nat → Nat) (S : Nat → Nat → Int → Int) (tb : Nat → Nat) (x : Int → Int) (ln sc : Int) (f : Int → Int) (w v : Int) (hR : Rel f (S 0)) (hI : Inv 100000 f) (kp : Kp f) (hsc : 0 ≤ sc ∧ sc ≤ 4) (hv9 : -2147483648 ≤ v ∧ v ≤ 2147483647) (hth : thSet w v = 0) : Met l yX4_set wsX4_set ({ frames := 4, cells := 0, slots := 0, locals := 113 } : Room) (zPe D vwCl (zT y) (wBq y o a S tb x ln sc (sav a) p6) sz [.ref (o 0), .int (iZ w), .int (iZ v)]) (va_Qi (fun (r : Int32) (u : (Nat → Nat → Nat) × (Nat → Nat → Int → Int)) => r = iZ (f (4 + w)) ∧ u.1 0 = a 0 ∧ u.1 1 = a 1 ∧ Rel (zu f (4 + w) v) (u.2 0) ∧ Rel f (u.2 (2 + (if sc = 4 then 3 else sc.toNat))) ∧ ∀ j : Nat, j < (if sc = 4 then 3 else sc.toNat) → u.2 (2 + j) = S (2 + j + (if sc = 4 then 1 else 0))) (zB D vwCl (zT y) (wBq y o a S tb x ln sc (sav a) p6) sz (fun u : (Nat → Nat → Nat) × (Nat → Nat → Int → Int) => wBq y o u.1 u.2 tb x ln (smS sc) (sav u.1) p6)) (va_A (wBq y o a S tb x ln sc (sav a) p6) sz)) 0 0 (va_A (wBq y o a S tb x ln sc (sav a) p6) sz) := by
  refine z_headE (cc := cX4_set) (maxL := 4) (ret := (some .int)) [(0, .ref (o 0)), (1, .int (iZ w)), (2, .int (iZ v))] rfl (Nat.le_of_ble_eq_true rfl) (by decide +kernel) rfl ?_
  intro pp ee ss mm below meth cd mx mb mr mml mo mts mlk hK hname hsz hA hE
  generalize ([.ref (o 0), .int (iZ w), .int (iZ v)] : List Value).toArray = args at mts ⊢
  obtain ⟨wst, hw0⟩ : ∃ wst, wst = wBq y o a S tb x ln sc (sav a) p6 := ⟨_, rfl⟩
  replace hE : zE (va_A wst sz) ss ss.heap := by rw [hw0]; exact hE
  have hA : ∀ q, ss.heap.size ≤ q → va_A wst sz q := by rw [hw0]; exact hA
  obtain ⟨Q, hQ⟩ : ∃ Q, Q = MQ below (va_Qi (fun (r : Int32) (u : (Nat → Nat → Nat) × (Nat → Nat → Int → Int)) => r = iZ (f (4 + w)) ∧ u.1 0 = a 0 ∧ u.1 1 = a 1 ∧ Rel (zu f (4 + w) v) (u.2 0) ∧ Rel f (u.2 (2 + (if sc = 4 then 3 else sc.toNat))) ∧ ∀ j : Nat, j < (if sc = 4 then 3 else sc.toNat) → u.2 (2 + j) = S (2 + j + (if sc = 4 then 1 else 0))) (zB D vwCl (zT y) wst sz (fun u : (Nat → Nat → Nat) × (Nat → Nat → Int → Int) => wBq y o u.1 u.2 tb x ln (smS sc) (sav u.1) p6)) (va_A wst sz)) args ss 0 0 (va_A wst sz) := ⟨_, rfl⟩
  have hstart : Gz pp l ee ({ frames := 4, cells := 0, slots := 0, locals := 113 } : Room) ss mm args below meth cd 4 0 0 Q (Zw D vwCl (va_A wst sz) ss (wBq y o a S tb x ln sc (sav a) p6)) 0 [(0, .ref (o 0)), (1, .int (iZ w)), (2, .int (iZ v))] [] := by
    obtain ⟨hW, hN, hT⟩ := (Inv_Jy hI).f
    obtain ⟨w0, w1, w2, w3, w4, w5, w6⟩ := id hW
    obtain ⟨n3, n4, n5, n6, n7, n8, n9, n10⟩ := id hN
    obtain ⟨⟨r0, r1, r2, r3, r4⟩, rc, rb, ⟨s0, s1, s2, s3⟩, rt, rl⟩ := id hR
    obtain ⟨hw9, hc1, hc2⟩ := thSet_0 hth
    obtain ⟨sr1, sr2, sr3, sr4⟩ := set_rng hw9
    have sw : S 0 7 w = f (4 + w) := (by rcases (show w = 0 ∨ w = 1 ∨ w = 2 ∨ w = 3 by omega) with rfl | rfl | rfl | rfl <;> first | exact s0 | exact s1 | exact s2 | exact s3)
    refine z_iload_n mx mb dX4_set_0 rfl 1 rfl ?_
    refine z_if_lt (tgt := 9) mx mb (by omega) dX4_set_1 (by decide) (fun c1 => ?_) (fun c1 => ?_)
    · skip
      exact absurd c1 (by omega)
    · skip
      refine z_iload_n mx mb dX4_set_4 rfl 1 rfl ?_
      refine z_iconst mx mb dX4_set_5 ?_
      refine z_icmp_le (tgt := 19) mx mb (by omega) (by omega) dX4_set_6 (by decide) (fun c6 => ?_) (fun c6 => ?_)
      · skip
        refine z_iload_n mx mb dX4_set_19 rfl 2 rfl ?_
        refine z_row mx mb hE.2.1.1 mo (mts _ (List.mem_of_getElem? (i := 5) rfl)) (fun _ h9 => h9) dX4_set_20 (fun t20 ht20 => ?_)
        refine z_iload_n mx mb dX4_set_23 rfl 1 rfl ?_
        refine z_rowAt mx mb ht20 (by omega) dX4_set_24 ?_
        refine z_icmp_lt (tgt := 37) mx mb (by omega) (by omega) dX4_set_25 (by decide) (fun c25 => ?_) (fun c25 => ?_)
        · skip
          exact absurd c25 (by omega)
        · skip
          refine z_iload_n mx mb dX4_set_28 rfl 2 rfl ?_
          refine z_row mx mb hE.2.1.2.1 mo (mts _ (List.mem_of_getElem? (i := 6) rfl)) (fun _ h9 => h9) dX4_set_29 (fun t29 ht29 => ?_)
          refine z_iload_n mx mb dX4_set_32 rfl 1 rfl ?_
          refine z_rowAt mx mb ht29 (by omega) dX4_set_33 ?_
          refine z_icmp_le (tgt := 47) mx mb (by omega) (by omega) dX4_set_34 (by decide) (fun c34 => ?_) (fun c34 => ?_)
          · skip
            refine z_aload_n mx mb dX4_set_47 rfl 0 rfl ?_
            refine z_callV0 (As := []) (rest := []) ⟨mx, mb, mml, mo, mts⟩ hK hA (fun sz => c_X4_save l D sz y o a S tb x ln sc f hsc hR hW) (cwV 0 mts gX4_set_X4_save rfl rfl rfl (by decide +kernel) ⟨Nat.le_of_ble_eq_true rfl, Nat.le_of_ble_eq_true rfl⟩) 0 wB_0 rfl rfl rfl rfl (Nat.le_of_ble_eq_true rfl) ⟨Nat.zero_le _, Nat.zero_le _⟩ dX4_set_48 (fun u48 hu48 => ?_)
            obtain ⟨a2, S2⟩ := u48
            obtain ⟨v0, v1, v2, v3, v4, v5⟩ := hu48
            replace v0 : a2 0 = a 0 := v0
            replace v1 : a2 1 = a 1 := v1
            replace v2 : S2 0 = S 0 := v2
            replace v3 : S2 1 = S 1 := v3
            replace v4 : Rel f (S2 (2 + (if sc = 4 then 3 else sc.toNat))) := v4
            replace v5 : ∀ j : Nat, j < (if sc = 4 then 3 else sc.toNat) → S2 (2 + j) = S (2 + j + (if sc = 4 then 1 else 0)) := v5
            have hR2 : Rel f (S2 0) := (by rw [v2]; exact hR)
            show Gz pp l ee ({ frames := 4, cells := 0, slots := 0, locals := 113 } : Room) ss mm args below meth cd 4 0 0 Q (Zw D vwCl (va_A wst sz) ss (wBq y o a2 S2 tb x ln (smS sc) (sav a2) p6)) 51 [(0, .ref (o 0)), (1, .int (iZ w)), (2, .int (iZ v))] []
            refine z_aload_n mx mb dX4_set_51 rfl 0 rfl ?_
            refine z_get (C := RX4) (T := TX4) (N := 5) mx mb mts (in_X4_set_X4) mo hK zgw 0 wB_0 rfl 0 (by decide) (mts _ (List.mem_of_getElem? (i := 7) rfl)) (fun _ h9 => h9) rfl dX4_set_52 ?_
            refine z_get (C := RX0) (T := TX0) (N := 9) mx mb mts (in_X4_set_X0) mo hK zgw (4 + 15 * 0 + 0) ((wB_get 0 0 (by omega) (by omega)).trans wR_0) rfl 2 (by decide) (mts _ (List.mem_of_getElem? (i := 8) rfl)) (fun _ h9 => h9) rfl dX4_set_55 ?_
            refine z_iload_n mx mb dX4_set_58 rfl 1 rfl ?_
            refine z_iald mx mb hK zgw (4 + 15 * 0 + 7) 0 ((wB_get 0 7 (by omega) (by omega)).trans wR_7) rfl (by decide) (by omega) dX4_set_59 ?_
            refine z_top (show ((S2 0) 7) w = f (4 + w) from by rw [v2]; exact sw) ?_
            refine z_istore_n mx mb dX4_set_60 rfl (by decide) [(3, .int (iZ (f (4 + w)))), (0, .ref (o 0)), (1, .int (iZ w)), (2, .int (iZ v))] rfl ?_
            refine z_aload_n mx mb dX4_set_61 rfl 1 rfl ?_
            refine z_get (C := RX4) (T := TX4) (N := 5) mx mb mts (in_X4_set_X4) mo hK zgw 0 wB_0 rfl 0 (by decide) (mts _ (List.mem_of_getElem? (i := 7) rfl)) (fun _ h9 => h9) rfl dX4_set_62 ?_
            refine z_get (C := RX0) (T := TX0) (N := 9) mx mb mts (in_X4_set_X0) mo hK zgw (4 + 15 * 0 + 0) ((wB_get 0 0 (by omega) (by omega)).trans wR_0) rfl 2 (by decide) (mts _ (List.mem_of_getElem? (i := 8) rfl)) (fun _ h9 => h9) rfl dX4_set_65 ?_
            refine z_iload_n mx mb dX4_set_68 rfl 2 rfl ?_
            refine z_iload_n mx mb dX4_set_69 rfl 3 rfl ?_
            refine z_iast mx mb hK (4 + 15 * 0 + 7) 0 ((wB_get 0 7 (by omega) (by omega)).trans wR_7) rfl (by decide) (by omega) dX4_set_70 (wBq y o a2 (uR S2 0 (uc (S2 0) 7 (zu ((S2 0) 7) w v))) tb x ln (smS sc) (sav a2) p6) (wB_set 0 7 (by omega) (by omega) wR_s7) ?_
            refine z_iload_n mx mb dX4_set_71 rfl 0 rfl ?_
            rw [hQ]
            exact z_retI mx mb mr mlk hK (a2, uR S2 0 (uc (S2 0) 7 (zu ((S2 0) 7) w v))) (by exact ⟨rfl, v0, v1, by show Rel _ (uR S2 0 (uc (S2 0) 7 (zu ((S2 0) 7) w v)) 0); rw [uR_s]; exact rel_set hR2 hW hw9, by show Rel f (uR S2 0 (uc (S2 0) 7 (zu ((S2 0) 7) w v)) (2 + (if sc = 4 then 3 else sc.toNat))); rw [uR_n (by omega)]; exact v4, fun j hj => (by show uR S2 0 (uc (S2 0) 7 (zu ((S2 0) 7) w v)) (2 + j) = _; rw [uR_n (by omega)]; exact v5 j hj)⟩) rfl dX4_set_72
          · skip
            exact absurd c34 (by omega)
      · skip
        exact absurd c6 (by omega)
  subst hQ
  subst hw0
  exact hstart

theorem in_X4_dispatchesWith_X0 : ∀ w ∈ wsX00, w ∈ wsX4_dispatchesWith := by decide +kernel
theorem in_X4_dispatchesWith_X4 : ∀ w ∈ wsX40, w ∈ wsX4_dispatchesWith := by decide +kernel
set_option maxRecDepth 100000 in
set_option maxHeartbeats 4000000 in
theorem c_X4_dispatchesWith (l : Launch) (D : va_G) (sz : Nat) (y : Nat → ClassId) (o : Nat → Nat) (a : Nat → Nat → Nat) (S : Nat → Nat → Int → Int) (tb : Nat → Nat) (x : Int → Int) (ln sc : Int) (f : Int → Int) (gp : Int) (hR : Rel f (S 0)) (hI : Inv 100000 f) (kp : Kp f) (hg : 0 ≤ gp ∧ gp ≤ 500) : Met l yX4_dispatchesWith wsX4_dispatchesWith ({ frames := 5, cells := 0, slots := 0, locals := 110 } : Room) (zPe D vwCl (zT y) (wBq y o a S tb x ln sc (sav a) p6) sz [.ref (o 0), .int (iZ gp)]) (va_Qi (fun (r : Int32) (S' : Nat → Nat → Int → Int) => r = iZ (dispWith f gp) ∧ ∀ j : Nat, j ≠ 1 → S' j = S j) (zB D vwCl (zT y) (wBq y o a S tb x ln sc (sav a) p6) sz (fun S' : Nat → Nat → Int → Int => wBq y o a S' tb x ln sc (sav a) p6)) (va_A (wBq y o a S tb x ln sc (sav a) p6) sz)) 0 0 (va_A (wBq y o a S tb x ln sc (sav a) p6) sz) := by
  refine z_headE (cc := cX4_dispatchesWith) (maxL := 3) (ret := (some .int)) [(0, .ref (o 0)), (1, .int (iZ gp))] rfl (Nat.le_of_ble_eq_true rfl) (by decide +kernel) rfl ?_
  intro pp ee ss mm below meth cd mx mb mr mml mo mts mlk hK hname hsz hA hE
  generalize ([.ref (o 0), .int (iZ gp)] : List Value).toArray = args at mts ⊢
  obtain ⟨wst, hw0⟩ : ∃ wst, wst = wBq y o a S tb x ln sc (sav a) p6 := ⟨_, rfl⟩
  replace hE : zE (va_A wst sz) ss ss.heap := by rw [hw0]; exact hE
  have hA : ∀ q, ss.heap.size ≤ q → va_A wst sz q := by rw [hw0]; exact hA
  obtain ⟨Q, hQ⟩ : ∃ Q, Q = MQ below (va_Qi (fun (r : Int32) (S' : Nat → Nat → Int → Int) => r = iZ (dispWith f gp) ∧ ∀ j : Nat, j ≠ 1 → S' j = S j) (zB D vwCl (zT y) wst sz (fun S' : Nat → Nat → Int → Int => wBq y o a S' tb x ln sc (sav a) p6)) (va_A wst sz)) args ss 0 0 (va_A wst sz) := ⟨_, rfl⟩
  have hstart : Gz pp l ee ({ frames := 5, cells := 0, slots := 0, locals := 110 } : Room) ss mm args below meth cd 3 0 0 Q (Zw D vwCl (va_A wst sz) ss (wBq y o a S tb x ln sc (sav a) p6)) 0 [(0, .ref (o 0)), (1, .int (iZ gp))] [] := by
    obtain ⟨hW, hN, hT⟩ := (Inv_Jy hI).f
    obtain ⟨w0, w1, w2, w3, w4, w5, w6⟩ := id hW
    obtain ⟨n3, n4, n5, n6, n7, n8, n9, n10⟩ := id hN
    obtain ⟨⟨r0, r1, r2, r3, r4⟩, rc, rb, ⟨s0, s1, s2, s3⟩, rt, rl⟩ := id hR
    have iF := Inv_zu6 hI hg
    obtain ⟨hWF, hNF, -⟩ := (Inv_Jy iF).f
    have kF : Kp (zu f 6 gp) := Kp_off kp (Inv_Jy hI) (zu_n (by omega)) (zu_n (by omega)) (fun i _ _ => zu_n (by omega)) (fun i _ _ => zu_n (by omega)) (fun i _ _ => zu_n (by omega))
    refine z_iload_n mx mb dX4_dispatchesWith_0 rfl 1 rfl ?_
    refine z_row mx mb hE.2.1.1 mo (mts _ (List.mem_of_getElem? (i := 3) rfl)) (fun _ h9 => h9) dX4_dispatchesWith_1 (fun t1 ht1 => ?_)
    refine z_iconst mx mb dX4_dispatchesWith_4 ?_
    refine z_rowAt mx mb ht1 (by omega) dX4_dispatchesWith_5 ?_
    refine z_top (show st4 0 1 0 0 2 = 0 from rfl) ?_
    refine z_icmp_lt (tgt := 18) mx mb (by omega) (by omega) dX4_dispatchesWith_6 (by decide) (fun c6 => ?_) (fun c6 => ?_)
    · skip
      exact absurd c6 (by omega)
    · skip
      refine z_iload_n mx mb dX4_dispatchesWith_9 rfl 1 rfl ?_
      refine z_row mx mb hE.2.1.2.1 mo (mts _ (List.mem_of_getElem? (i := 4) rfl)) (fun _ h9 => h9) dX4_dispatchesWith_10 (fun t10 ht10 => ?_)
      refine z_iconst mx mb dX4_dispatchesWith_13 ?_
      refine z_rowAt mx mb ht10 (by omega) dX4_dispatchesWith_14 ?_
      refine z_top (show st4 20 50 500 40 2 = 500 from rfl) ?_
      refine z_icmp_le (tgt := 28) mx mb (by omega) (by omega) dX4_dispatchesWith_15 (by decide) (fun c15 => ?_) (fun c15 => ?_)
      · skip
        refine z_aload_n mx mb dX4_dispatchesWith_28 rfl 0 rfl ?_
        refine z_get (C := RX4) (T := TX4) (N := 5) mx mb mts (in_X4_dispatchesWith_X4) mo hK zgw 0 wB_0 rfl 1 (by decide) (mts _ (List.mem_of_getElem? (i := 5) rfl)) (fun _ h9 => h9) rfl dX4_dispatchesWith_29 ?_
        refine z_aload_n mx mb dX4_dispatchesWith_32 rfl 0 rfl ?_
        refine z_get (C := RX4) (T := TX4) (N := 5) mx mb mts (in_X4_dispatchesWith_X4) mo hK zgw 0 wB_0 rfl 0 (by decide) (mts _ (List.mem_of_getElem? (i := 6) rfl)) (fun _ h9 => h9) rfl dX4_dispatchesWith_33 ?_
        refine z_copy (i := 1) (j := 0) (ps := [2, 3, 4, 5]) (rest := []) (by decide) (by decide) (by decide) ⟨mx, mb, mml, mo, mts⟩ hK hA (fun sz => c_X0_copyFrom l D sz y (a 1) (S 1) (a 0) (S 0) f hR hW) (cwV 1 mts gX4_dispatchesWith_X0_copyFrom rfl rfl rfl (by decide +kernel) ⟨Nat.le_of_ble_eq_true rfl, Nat.le_of_ble_eq_true rfl⟩) (Nat.le_of_ble_eq_true rfl) ⟨Nat.zero_le _, Nat.zero_le _⟩ dX4_dispatchesWith_36 (fun u36 hu36 => ?_)
        show Gz pp l ee ({ frames := 5, cells := 0, slots := 0, locals := 110 } : Room) ss mm args below meth cd 3 0 0 Q (Zw D vwCl (va_A wst sz) ss (wBq y o a (uR S 1 u36) tb x ln sc (sav a) p6)) 39 [(0, .ref (o 0)), (1, .int (iZ gp))] []
        obtain ⟨S1, eS1⟩ : ∃ z, z = uR S 1 u36 := ⟨_, rfl⟩
        rw [← eS1]
        have q1 : S1 1 = u36 := (by rw [eS1, uR_s])
        have q0 : ∀ j : Nat, j ≠ 1 → S1 j = S j := fun j hj => (by rw [eS1, uR_n hj])
        have hr1 : Rel f (S1 1) := (by rw [q1]; exact hu36)
        refine z_aload_n mx mb dX4_dispatchesWith_39 rfl 0 rfl ?_
        refine z_get (C := RX4) (T := TX4) (N := 5) mx mb mts (in_X4_dispatchesWith_X4) mo hK zgw 0 wB_0 rfl 1 (by decide) (mts _ (List.mem_of_getElem? (i := 5) rfl)) (fun _ h9 => h9) rfl dX4_dispatchesWith_40 ?_
        refine z_get (C := RX0) (T := TX0) (N := 9) mx mb mts (in_X4_dispatchesWith_X0) mo hK zgw (4 + 15 * 1 + 0) ((wB_get 1 0 (by omega) (by omega)).trans wR_0) rfl 2 (by decide) (mts _ (List.mem_of_getElem? (i := 7) rfl)) (fun _ h9 => h9) rfl dX4_dispatchesWith_43 ?_
        refine z_iconst mx mb dX4_dispatchesWith_46 ?_
        refine z_iload_n mx mb dX4_dispatchesWith_47 rfl 1 rfl ?_
        refine z_iast mx mb hK (4 + 15 * 1 + 7) 0 ((wB_get 1 7 (by omega) (by omega)).trans wR_7) rfl (by decide) (by omega) dX4_dispatchesWith_48 (wBq y o a (uR S1 1 (uc (S1 1) 7 (zu ((S1 1) 7) 2 gp))) tb x ln sc (sav a) p6) (wB_set 1 7 (by omega) (by omega) wR_s7) ?_
        obtain ⟨S2, eS2⟩ : ∃ z, z = uR S1 1 (uc (S1 1) 7 (zu ((S1 1) 7) 2 gp)) := ⟨_, rfl⟩
        rw [← eS2]
        have t1 : S2 1 = uc (S1 1) 7 (zu (S1 1 7) 2 gp) := (by rw [eS2, uR_s])
        have t0 : ∀ j : Nat, j ≠ 1 → S2 j = S j := fun j hj => (by rw [eS2, uR_n hj]; exact q0 j hj)
        have hr2 : Rel (zu f 6 gp) (S2 1) := (by rw [t1]; exact rel_set hr1 hW (w := 2) (by omega))
        refine z_iconst mx mb dX4_dispatchesWith_49 ?_
        refine z_istore_n mx mb dX4_dispatchesWith_50 rfl (by decide) [(2, .int (iZ 0)), (0, .ref (o 0)), (1, .int (iZ gp))] rfl ?_
        have lp51 : ∀ (nn : Nat) (i : Nat) (Si : Nat → Nat → Int → Int) (x2 : Int), 1000 - i < nn → (i ≤ 1000) → (x2 = (i : Int)) → (Rel (ticks (zu f 6 gp) i) (Si 1)) → (∀ j : Nat, j ≠ 1 → Si j = S j) → Gz pp l ee ({ frames := 5, cells := 0, slots := 0, locals := 110 } : Room) ss mm args below meth cd 3 0 0 Q (Zw D vwCl (va_A wst sz) ss (wBq y o a Si tb x ln sc (sav a) p6)) 51 [(0, .ref (o 0)), (1, .int (iZ gp)), (2, .int (iZ x2))] [] := by
          intro nn
          induction nn with
          | zero => exact fun i Si x2 hm => absurd hm (Nat.not_lt_zero _)
          | succ nn ih =>
            intro i Si x2 hm hi e2 hRi hso
            have ix : InvX (ticks (zu f 6 gp) i) := ticks_InvX (Inv_le iF (by omega)) i (by omega)
            have kx : Kp (ticks (zu f 6 gp) i) := ticks_keep iF kF i (by omega)
            refine z_iload_n mx mb dX4_dispatchesWith_51 rfl 2 rfl ?_
            refine z_sipush mx mb dX4_dispatchesWith_52 (by decide +kernel) ?_
            refine z_icmp_ge (tgt := 71) mx mb (by omega) (by omega) dX4_dispatchesWith_55 (by decide) (fun c55 => ?_) (fun c55 => ?_)
            · skip
              have hi2 : i = 1000 := by omega
              rw [hi2] at hRi
              refine z_aload_n mx mb dX4_dispatchesWith_71 rfl 0 rfl ?_
              refine z_get (C := RX4) (T := TX4) (N := 5) mx mb mts (in_X4_dispatchesWith_X4) mo hK zgw 0 wB_0 rfl 1 (by decide) (mts _ (List.mem_of_getElem? (i := 5) rfl)) (fun _ h9 => h9) rfl dX4_dispatchesWith_72 ?_
              refine z_get (C := RX0) (T := TX0) (N := 9) mx mb mts (in_X4_dispatchesWith_X0) mo hK zgw (4 + 15 * 1 + 0) ((wB_get 1 0 (by omega) (by omega)).trans wR_0) rfl 8 (by decide) (mts _ (List.mem_of_getElem? (i := 8) rfl)) (fun _ h9 => h9) rfl dX4_dispatchesWith_75 ?_
              refine z_top (show (Si 1) 0 2 = ticks (zu f 6 gp) 1000 8 from by exact hRi.1.2.2.2.2) ?_
              refine z_aload_n mx mb dX4_dispatchesWith_78 rfl 0 rfl ?_
              refine z_get (C := RX4) (T := TX4) (N := 5) mx mb mts (in_X4_dispatchesWith_X4) mo hK zgw 0 wB_0 rfl 0 (by decide) (mts _ (List.mem_of_getElem? (i := 6) rfl)) (fun _ h9 => h9) rfl dX4_dispatchesWith_79 ?_
              refine z_get (C := RX0) (T := TX0) (N := 9) mx mb mts (in_X4_dispatchesWith_X0) mo hK zgw (4 + 15 * 0 + 0) ((wB_get 0 0 (by omega) (by omega)).trans wR_0) rfl 8 (by decide) (mts _ (List.mem_of_getElem? (i := 8) rfl)) (fun _ h9 => h9) rfl dX4_dispatchesWith_82 ?_
              refine z_top (show (Si 0) 0 2 = f 8 from by rw [hso 0 (by omega)]; exact r4) ?_
              refine z_isub mx mb dX4_dispatchesWith_85 ?_
              rw [hQ]
              exact z_retI mx mb mr mlk hK Si (by exact ⟨rfl, hso⟩) rfl dX4_dispatchesWith_86
            · skip
              refine z_aload_n mx mb dX4_dispatchesWith_58 rfl 0 rfl ?_
              refine z_get (C := RX4) (T := TX4) (N := 5) mx mb mts (in_X4_dispatchesWith_X4) mo hK zgw 0 wB_0 rfl 1 (by decide) (mts _ (List.mem_of_getElem? (i := 5) rfl)) (fun _ h9 => h9) rfl dX4_dispatchesWith_59 ?_
              refine z_rideV (j := 1) (As := []) (rest := []) (by omega) ⟨mx, mb, mml, mo, mts⟩ hK hA (fun sz => c_X0_tick l D sz y (a 1) (Si 1) (ticks (zu f 6 gp) i)  (by assumption) (by assumption) (by assumption)) (cwV 0 mts gX4_dispatchesWith_X0_tick rfl rfl rfl (by decide +kernel) ⟨Nat.le_of_ble_eq_true rfl, Nat.le_of_ble_eq_true rfl⟩) rfl rfl (Nat.le_of_ble_eq_true rfl) ⟨Nat.zero_le _, Nat.zero_le _⟩ dX4_dispatchesWith_62 (fun u62 hu62 => ?_)
              have hu62 : Rel (tick (ticks (zu f 6 gp) i)) u62 := hu62
              show Gz pp l ee ({ frames := 5, cells := 0, slots := 0, locals := 110 } : Room) ss mm args below meth cd 3 0 0 Q (Zw D vwCl (va_A wst sz) ss (wBq y o a (uR Si 1 u62) tb x ln sc (sav a) p6)) 65 [(0, .ref (o 0)), (1, .int (iZ gp)), (2, .int (iZ x2))] []
              obtain ⟨S3, eS3⟩ : ∃ z, z = uR Si 1 u62 := ⟨_, rfl⟩
              rw [← eS3]
              have z1 : S3 1 = u62 := (by rw [eS3, uR_s])
              have hr3 : Rel (ticks (zu f 6 gp) (i + 1)) (S3 1) := (by rw [z1]; exact hu62)
              have z0 : ∀ j : Nat, j ≠ 1 → S3 j = S j := fun j hj => (by rw [eS3, uR_n hj]; exact hso j hj)
              refine z_iinc mx mb dX4_dispatchesWith_65 2 rfl (by decide) [(2, .int (iZ (x2 + 1))), (0, .ref (o 0)), (1, .int (iZ gp))] rfl ?_
              refine z_goto (tgt := 51) mx mb dX4_dispatchesWith_68 (by decide) ?_
              refine z_lv [1, 2, 0] rfl ?_
              exact ih (i + 1) _ _ (by omega) (by omega) (by omega) (by exact hr3) (by exact z0)
        refine z_lv [1, 2, 0] rfl ?_
        exact lp51 _ 0 S2 0 (Nat.lt_succ_self _) (by omega) (by rfl) (by exact hr2) (by exact t0)
      · skip
        exact absurd c15 (by omega)
  subst hQ
  subst hw0
  exact hstart

set_option maxRecDepth 100000 in
set_option maxHeartbeats 4000000 in
theorem c_X4_mostFriction (l : Launch) (D : va_G) (sz : Nat) (y : Nat → ClassId) (o : Nat → Nat) (a : Nat → Nat → Nat) (S : Nat → Nat → Int → Int) (tb : Nat → Nat) (x : Int → Int) (ln sc : Int) (f : Int → Int) (hR : Rel f (S 0)) (hI : Inv 100000 f) (kp : Kp f) : Met l yX4_mostFriction wsX4_mostFriction ({ frames := 6, cells := 0, slots := 0, locals := 134 } : Room) (zPe D vwCl (zT y) (wBq y o a S tb x ln sc (sav a) p6) sz [.ref (o 0)]) (va_Qi (fun (r : Int32) (S' : Nat → Nat → Int → Int) => r = iZ (mostF f 21) ∧ ∀ j : Nat, j ≠ 1 → S' j = S j) (zB D vwCl (zT y) (wBq y o a S tb x ln sc (sav a) p6) sz (fun S' : Nat → Nat → Int → Int => wBq y o a S' tb x ln sc (sav a) p6)) (va_A (wBq y o a S tb x ln sc (sav a) p6) sz)) 0 0 (va_A (wBq y o a S tb x ln sc (sav a) p6) sz) := by
  refine z_headE (cc := cX4_mostFriction) (maxL := 2) (ret := (some .int)) [(0, .ref (o 0))] rfl (Nat.le_of_ble_eq_true rfl) (by decide +kernel) rfl ?_
  intro pp ee ss mm below meth cd mx mb mr mml mo mts mlk hK hname hsz hA hE
  generalize ([.ref (o 0)] : List Value).toArray = args at mts ⊢
  obtain ⟨wst, hw0⟩ : ∃ wst, wst = wBq y o a S tb x ln sc (sav a) p6 := ⟨_, rfl⟩
  replace hE : zE (va_A wst sz) ss ss.heap := by rw [hw0]; exact hE
  have hA : ∀ q, ss.heap.size ≤ q → va_A wst sz q := by rw [hw0]; exact hA
  obtain ⟨Q, hQ⟩ : ∃ Q, Q = MQ below (va_Qi (fun (r : Int32) (S' : Nat → Nat → Int → Int) => r = iZ (mostF f 21) ∧ ∀ j : Nat, j ≠ 1 → S' j = S j) (zB D vwCl (zT y) wst sz (fun S' : Nat → Nat → Int → Int => wBq y o a S' tb x ln sc (sav a) p6)) (va_A wst sz)) args ss 0 0 (va_A wst sz) := ⟨_, rfl⟩
  have hstart : Gz pp l ee ({ frames := 6, cells := 0, slots := 0, locals := 134 } : Room) ss mm args below meth cd 2 0 0 Q (Zw D vwCl (va_A wst sz) ss (wBq y o a S tb x ln sc (sav a) p6)) 0 [(0, .ref (o 0))] [] := by
    obtain ⟨hW, hN, hT⟩ := (Inv_Jy hI).f
    obtain ⟨w0, w1, w2, w3, w4, w5, w6⟩ := id hW
    obtain ⟨n3, n4, n5, n6, n7, n8, n9, n10⟩ := id hN
    obtain ⟨⟨r0, r1, r2, r3, r4⟩, rc, rb, ⟨s0, s1, s2, s3⟩, rt, rl⟩ := id hR
    refine z_row mx mb hE.2.1.2.1 mo (mts _ (List.mem_of_getElem? (i := 1) rfl)) (fun _ h9 => h9) dX4_mostFriction_0 (fun t0 ht0 => ?_)
    refine z_iconst mx mb dX4_mostFriction_3 ?_
    refine z_rowAt mx mb ht0 (by omega) dX4_mostFriction_4 ?_
    refine z_top (show st4 20 50 500 40 0 = 20 from rfl) ?_
    refine z_istore_n mx mb dX4_mostFriction_5 rfl (by decide) [(1, .int (iZ 20)), (0, .ref (o 0))] rfl ?_
    have lp6 : ∀ (nn : Nat) (i : Nat) (Si : Nat → Nat → Int → Int) (x1 : Int), 21 - i < nn → (i ≤ 21) → (x1 = 20 - (i : Int)) → (mostF f i = -1) → (∀ j : Nat, j ≠ 1 → Si j = S j) → Gz pp l ee ({ frames := 6, cells := 0, slots := 0, locals := 134 } : Room) ss mm args below meth cd 2 0 0 Q (Zw D vwCl (va_A wst sz) ss (wBq y o a Si tb x ln sc (sav a) p6)) 6 [(0, .ref (o 0)), (1, .int (iZ x1))] [] := by
      intro nn
      induction nn with
      | zero => exact fun i Si x1 hm => absurd hm (Nat.not_lt_zero _)
      | succ nn ih =>
        intro i Si x1 hm hi e1 hm9 hso
        refine z_iload_n mx mb dX4_mostFriction_6 rfl 1 rfl ?_
        refine z_row mx mb hE.2.1.1 mo (mts _ (List.mem_of_getElem? (i := 2) rfl)) (fun _ h9 => h9) dX4_mostFriction_7 (fun t7 ht7 => ?_)
        refine z_iconst mx mb dX4_mostFriction_10 ?_
        refine z_rowAt mx mb ht7 (by omega) dX4_mostFriction_11 ?_
        refine z_top (show st4 0 1 0 0 0 = 0 from rfl) ?_
        refine z_icmp_lt (tgt := 35) mx mb (by omega) (by omega) dX4_mostFriction_12 (by decide) (fun c12 => ?_) (fun c12 => ?_)
        · skip
          have hi2 : i = 21 := by omega
          rw [hi2] at hm9
          refine z_iconst mx mb dX4_mostFriction_35 ?_
          rw [hQ]
          exact z_retI mx mb mr mlk hK Si (by exact ⟨by rw [hm9], hso⟩) rfl dX4_mostFriction_36
        · skip
          have tr : -1 ≤ toValley (zu f 4 x1) 500 ∧ toValley (zu f 4 x1) 500 ≤ 500 := toValley_rng (zu f 4 x1) 500
          refine z_aload_n mx mb dX4_mostFriction_15 rfl 0 rfl ?_
          refine z_iload_n mx mb dX4_mostFriction_16 rfl 1 rfl ?_
          refine z_sipush mx mb dX4_mostFriction_17 (by decide +kernel) ?_
          refine z_callI0 (As := [.int (iZ x1), .int (iZ 500)]) (rest := []) ⟨mx, mb, mml, mo, mts⟩ hK hA (fun sz => c_X4_nextValley l D sz y o a Si tb x ln sc f x1 500 (by rw [hso 0 (by omega)]; exact hR) hI kp (by omega) (by omega)) (cwV 2 mts gX4_mostFriction_X4_nextValley rfl rfl rfl (by decide +kernel) ⟨Nat.le_of_ble_eq_true rfl, Nat.le_of_ble_eq_true rfl⟩) 0 wB_0 rfl rfl rfl rfl (Nat.le_of_ble_eq_true rfl) ⟨Nat.zero_le _, Nat.zero_le _⟩ dX4_mostFriction_20 (fun r20 u20 hu20 => ?_)
          obtain ⟨er20, so20⟩ := hu20
          obtain rfl : r20 = iZ (toValley (zu f 4 x1) 500) := er20
          show Gz pp l ee ({ frames := 6, cells := 0, slots := 0, locals := 134 } : Room) ss mm args below meth cd 2 0 0 Q (Zw D vwCl (va_A wst sz) ss (wBq y o a u20 tb x ln sc (sav a) p6)) 23 [(0, .ref (o 0)), (1, .int (iZ x1))] [.int (iZ (toValley (zu f 4 x1) 500))]
          refine z_iconst mx mb dX4_mostFriction_23 ?_
          refine z_icmp_ne (tgt := 29) mx mb (by omega) (by omega) dX4_mostFriction_24 (by decide) (fun c24 => ?_) (fun c24 => ?_)
          · skip
            refine z_iinc mx mb dX4_mostFriction_29 1 rfl (by decide) [(1, .int (iZ (x1 + (-1)))), (0, .ref (o 0))] rfl ?_
            refine z_goto (tgt := 6) mx mb dX4_mostFriction_32 (by decide) ?_
            refine z_lv [1, 0] rfl ?_
            exact ih (i + 1) _ _ (by omega) (by omega) (by omega) (by rw [mostF, if_pos hm9, ← e1, if_neg c24]) (by intro j hj; rw [so20 j hj]; exact hso j hj)
          · skip
            have hm1 : mostF f (i + 1) = x1 := (by rw [mostF, if_pos hm9, ← e1, if_pos (by omega)])
            refine z_iload_n mx mb dX4_mostFriction_27 rfl 1 rfl ?_
            rw [hQ]
            exact z_retI mx mb mr mlk hK u20 (by exact ⟨by rw [mostF_keep (n := i + 1) (by rw [hm1]; omega) (by omega), hm1], fun j hj => (by rw [so20 j hj]; exact hso j hj)⟩) rfl dX4_mostFriction_28
    refine z_lv [1, 0] rfl ?_
    exact lp6 _ 0 S 20 (Nat.lt_succ_self _) (by omega) (by rfl) (by rfl) (by exact fun j _ => rfl)
  subst hQ
  subst hw0
  exact hstart
