theorem in_X4_digest_X0 : ∀ w ∈ wsX00, w ∈ wsX4_digest := by decide +kernel
theorem in_X4_digest_X2 : ∀ w ∈ wsX20, w ∈ wsX4_digest := by decide +kernel
theorem in_X4_digest_X4 : ∀ w ∈ wsX40, w ∈ wsX4_digest := by decide +kernel
set_option maxRecDepth 100000 in
set_option maxHeartbeats 4000000 in
theorem c_X4_digest (l : Launch) (D : va_G) (sz : Nat) (y : Nat → ClassId) (o : Nat → Nat) (a : Nat → Nat → Nat) (S : Nat → Nat → Int → Int) (tb : Nat → Nat) (x : Int → Int) (ln sc : Int) (f : Int → Int) (hR : Rel f (S 0)) (hI : Inv 100000 f) (kp : Kp f) : Met l yX4_digest wsX4_digest ({ frames := 6, cells := 0, slots := 0, locals := 134 } : Room) (zPw D vwCl (zT y) (wBq y o a S tb x ln sc (sav a) p6) sz [.ref (o 0)]) (va_Ql (fun (r : Int64) (S' : Nat → Nat → Int → Int) => r = lZ (dg f ln sc) ∧ ∀ j : Nat, j ≠ 1 → S' j = S j) (zB D vwCl (zT y) (wBq y o a S tb x ln sc (sav a) p6) sz (fun S' : Nat → Nat → Int → Int => wBq y o a S' tb x ln sc (sav a) p6)) (va_A (wBq y o a S tb x ln sc (sav a) p6) sz)) 0 0 (va_A (wBq y o a S tb x ln sc (sav a) p6) sz) := by
  refine z_headW (cc := cX4_digest) (maxL := 4) (ret := (some .long)) [(0, .ref (o 0))] rfl (Nat.le_of_ble_eq_true rfl) (by decide +kernel) rfl ?_
  intro pp ee ss mm below meth cd mx mb mr mml mo mts mlk hK hname hsz hA
  generalize ([.ref (o 0)] : List Value).toArray = args at mts ⊢
  obtain ⟨wst, hw0⟩ : ∃ wst, wst = wBq y o a S tb x ln sc (sav a) p6 := ⟨_, rfl⟩
  have hA : ∀ q, ss.heap.size ≤ q → va_A wst sz q := by rw [hw0]; exact hA
  obtain ⟨Q, hQ⟩ : ∃ Q, Q = MQ below (va_Ql (fun (r : Int64) (S' : Nat → Nat → Int → Int) => r = lZ (dg f ln sc) ∧ ∀ j : Nat, j ≠ 1 → S' j = S j) (zB D vwCl (zT y) wst sz (fun S' : Nat → Nat → Int → Int => wBq y o a S' tb x ln sc (sav a) p6)) (va_A wst sz)) args ss 0 0 (va_A wst sz) := ⟨_, rfl⟩
  have hstart : Gz pp l ee ({ frames := 6, cells := 0, slots := 0, locals := 134 } : Room) ss mm args below meth cd 4 0 0 Q (Zw D vwCl (va_A wst sz) ss (wBq y o a S tb x ln sc (sav a) p6)) 0 [(0, .ref (o 0))] [] := by
    obtain ⟨hW, hN, hT⟩ := (Inv_Jy hI).f
    obtain ⟨w0, w1, w2, w3, w4, w5, w6⟩ := id hW
    obtain ⟨n3, n4, n5, n6, n7, n8, n9, n10⟩ := id hN
    obtain ⟨⟨r0, r1, r2, r3, r4⟩, rc, rb, ⟨s0, s1, s2, s3⟩, rt, rl⟩ := id hR
    refine z_ldc2 (z := 3581) mx mb mo (mts _ (List.mem_of_getElem? (i := 1) rfl)) (by decide +kernel) dX4_digest_0 ?_
    refine z_aload_n mx mb dX4_digest_3 rfl 0 rfl ?_
    refine z_get (C := RX4) (T := TX4) (N := 5) mx mb mts (in_X4_digest_X4) mo hK zgw 0 wB_0 rfl 3 (by decide) (mts _ (List.mem_of_getElem? (i := 2) rfl)) (fun _ h9 => h9) rfl dX4_digest_4 ?_
    refine z_get (C := RX2) (T := TX2) (N := 2) mx mb mts (in_X4_digest_X2) mo hK zgw 2 wB_2 rfl 1 (by decide) (mts _ (List.mem_of_getElem? (i := 3) rfl)) (fun _ h9 => h9) rfl dX4_digest_7 ?_
    refine z_i2lw mx mb dX4_digest_10 ?_
    refine z_callPSl (As := [.long (lZ 3581), .long (lZ (wz ln))]) (rest := []) ⟨mx, mb, mml, mo, mts⟩ hK zgw (c_X4_hashWith l D y 3581 (wz ln)) (cwS 2 mts gX4_digest_X4_hashWith rfl rfl rfl (by decide +kernel) ⟨Nat.le_of_ble_eq_true rfl, Nat.le_of_ble_eq_true rfl⟩) (fun _ h => nomatch h) rfl rfl (Nat.le_of_ble_eq_true rfl) ⟨Nat.zero_le _, Nat.zero_le _⟩ dX4_digest_11 ?_
    refine z_lstore_n mx mb dX4_digest_14 rfl (by decide) [(1, .long (lZ (31 * 3581 + (wz ln)))), (0, .ref (o 0))] rfl ?_
    refine z_iconst mx mb dX4_digest_15 ?_
    refine z_istore_n mx mb dX4_digest_16 rfl (by decide) [(3, .int (iZ 0)), (1, .long (lZ (31 * 3581 + (wz ln)))), (0, .ref (o 0))] rfl ?_
    have lp17 : ∀ (nn : Nat) (i : Nat) (x3 hx : Int), 12 - i < nn → (i ≤ 12) → (x3 = (i : Int)) → (hx = hgo (fun w => valueOf f (w : Int)) (hmx 3581 ln) i) → Gz pp l ee ({ frames := 6, cells := 0, slots := 0, locals := 134 } : Room) ss mm args below meth cd 4 0 0 Q (Zw D vwCl (va_A wst sz) ss (wBq y o a S tb x ln sc (sav a) p6)) 17 [(0, .ref (o 0)), (1, .long (lZ hx)), (3, .int (iZ x3))] [] := by
      intro nn
      induction nn with
      | zero => exact fun i x3 hx hm => absurd hm (Nat.not_lt_zero _)
      | succ nn ih =>
        intro i x3 hx hm hi e3 eh
        refine z_iload_n mx mb dX4_digest_17 rfl 2 rfl ?_
        refine z_bipush mx mb dX4_digest_18 (by decide +kernel) ?_
        refine z_icmp_ge (tgt := 40) mx mb (by omega) (by omega) dX4_digest_20 (by decide) (fun c20 => ?_) (fun c20 => ?_)
        · skip
          have hi2 : i = 12 := by omega
          have h1e : hx = dgV f ln := (by rw [eh, hi2]; rfl)
          refine z_aload_n mx mb dX4_digest_40 rfl 0 rfl ?_
          refine z_lload_n mx mb dX4_digest_41 rfl 1 rfl ?_
          refine z_callL0 (As := [.long (lZ hx)]) (rest := []) ⟨mx, mb, mml, mo, mts⟩ hK hA (fun sz => c_X4_hashOfCells l D sz y o a S tb x ln sc f hx hR hI kp) (cwV 1 mts gX4_digest_X4_hashOfCells rfl rfl rfl (by decide +kernel) ⟨Nat.le_of_ble_eq_true rfl, Nat.le_of_ble_eq_true rfl⟩) 0 wB_0 rfl rfl rfl rfl (Nat.le_of_ble_eq_true rfl) ⟨Nat.zero_le _, Nat.zero_le _⟩ dX4_digest_42 (fun r42 u42 hu42 => ?_)
          obtain rfl : r42 = lZ (dgC f hx) := hu42
          show Gz pp l ee ({ frames := 6, cells := 0, slots := 0, locals := 134 } : Room) ss mm args below meth cd 4 0 0 Q (Zw D vwCl (va_A wst sz) ss (wBq y o a S tb x ln sc (sav a) p6)) 45 [(0, .ref (o 0)), (1, .long (lZ hx)), (3, .int (iZ x3))] [.long (lZ (dgC f hx))]
          refine z_lstore_n mx mb dX4_digest_45 rfl (by decide) [(1, .long (lZ (dgC f hx))), (0, .ref (o 0)), (3, .int (iZ x3))] rfl ?_
          refine z_aload_n mx mb dX4_digest_46 rfl 1 rfl ?_
          refine z_lload_n mx mb dX4_digest_47 rfl 0 rfl ?_
          refine z_callL0 (As := [.long (lZ (dgC f hx))]) (rest := []) ⟨mx, mb, mml, mo, mts⟩ hK hA (fun sz => c_X4_hashOfBlocks l D sz y o a S tb x ln sc f (dgC f hx) hR hI kp) (cwV 1 mts gX4_digest_X4_hashOfBlocks rfl rfl rfl (by decide +kernel) ⟨Nat.le_of_ble_eq_true rfl, Nat.le_of_ble_eq_true rfl⟩) 0 wB_0 rfl rfl rfl rfl (Nat.le_of_ble_eq_true rfl) ⟨Nat.zero_le _, Nat.zero_le _⟩ dX4_digest_48 (fun r48 u48 hu48 => ?_)
          obtain rfl : r48 = lZ (dgB f (dgC f hx)) := hu48
          show Gz pp l ee ({ frames := 6, cells := 0, slots := 0, locals := 134 } : Room) ss mm args below meth cd 4 0 0 Q (Zw D vwCl (va_A wst sz) ss (wBq y o a S tb x ln sc (sav a) p6)) 51 [(1, .long (lZ (dgC f hx))), (0, .ref (o 0)), (3, .int (iZ x3))] [.long (lZ (dgB f (dgC f hx)))]
          refine z_lstore_n mx mb dX4_digest_51 rfl (by decide) [(1, .long (lZ (dgB f (dgC f hx)))), (0, .ref (o 0)), (3, .int (iZ x3))] rfl ?_
          refine z_aload_n mx mb dX4_digest_52 rfl 1 rfl ?_
          refine z_lload_n mx mb dX4_digest_53 rfl 0 rfl ?_
          refine z_callL0 (As := [.long (lZ (dgB f (dgC f hx)))]) (rest := []) ⟨mx, mb, mml, mo, mts⟩ hK hA (fun sz => c_X4_hashOfTrains l D sz y o a S tb x ln sc f (dgB f (dgC f hx)) hR hI kp) (cwV 1 mts gX4_digest_X4_hashOfTrains rfl rfl rfl (by decide +kernel) ⟨Nat.le_of_ble_eq_true rfl, Nat.le_of_ble_eq_true rfl⟩) 0 wB_0 rfl rfl rfl rfl (Nat.le_of_ble_eq_true rfl) ⟨Nat.zero_le _, Nat.zero_le _⟩ dX4_digest_54 (fun r54 u54 hu54 => ?_)
          obtain rfl : r54 = lZ (dgT f (dgB f (dgC f hx))) := hu54
          show Gz pp l ee ({ frames := 6, cells := 0, slots := 0, locals := 134 } : Room) ss mm args below meth cd 4 0 0 Q (Zw D vwCl (va_A wst sz) ss (wBq y o a S tb x ln sc (sav a) p6)) 57 [(1, .long (lZ (dgB f (dgC f hx)))), (0, .ref (o 0)), (3, .int (iZ x3))] [.long (lZ (dgT f (dgB f (dgC f hx))))]
          refine z_lstore_n mx mb dX4_digest_57 rfl (by decide) [(1, .long (lZ (dgT f (dgB f (dgC f hx))))), (0, .ref (o 0)), (3, .int (iZ x3))] rfl ?_
          refine z_aload_n mx mb dX4_digest_58 rfl 1 rfl ?_
          refine z_lload_n mx mb dX4_digest_59 rfl 0 rfl ?_
          refine z_callL0 (As := [.long (lZ (dgT f (dgB f (dgC f hx))))]) (rest := []) ⟨mx, mb, mml, mo, mts⟩ hK hA (fun sz => c_X4_hashOfDispatches l D sz y o a S tb x ln sc f (dgT f (dgB f (dgC f hx))) hR hI kp) (cwV 1 mts gX4_digest_X4_hashOfDispatches rfl rfl rfl (by decide +kernel) ⟨Nat.le_of_ble_eq_true rfl, Nat.le_of_ble_eq_true rfl⟩) 0 wB_0 rfl rfl rfl rfl (Nat.le_of_ble_eq_true rfl) ⟨Nat.zero_le _, Nat.zero_le _⟩ dX4_digest_60 (fun r60 u60 hu60 => ?_)
          obtain rfl : r60 = lZ (dgL f (dgT f (dgB f (dgC f hx)))) := hu60
          show Gz pp l ee ({ frames := 6, cells := 0, slots := 0, locals := 134 } : Room) ss mm args below meth cd 4 0 0 Q (Zw D vwCl (va_A wst sz) ss (wBq y o a S tb x ln sc (sav a) p6)) 63 [(1, .long (lZ (dgT f (dgB f (dgC f hx))))), (0, .ref (o 0)), (3, .int (iZ x3))] [.long (lZ (dgL f (dgT f (dgB f (dgC f hx)))))]
          refine z_lstore_n mx mb dX4_digest_63 rfl (by decide) [(1, .long (lZ (dgL f (dgT f (dgB f (dgC f hx)))))), (0, .ref (o 0)), (3, .int (iZ x3))] rfl ?_
          refine z_lload_n mx mb dX4_digest_64 rfl 0 rfl ?_
          refine z_aload_n mx mb dX4_digest_65 rfl 1 rfl ?_
          refine z_aload_n mx mb dX4_digest_66 rfl 1 rfl ?_
          refine z_get (C := RX4) (T := TX4) (N := 5) mx mb mts (in_X4_digest_X4) mo hK zgw 0 wB_0 rfl 0 (by decide) (mts _ (List.mem_of_getElem? (i := 4) rfl)) (fun _ h9 => h9) rfl dX4_digest_67 ?_
          refine z_get (C := RX0) (T := TX0) (N := 9) mx mb mts (in_X4_digest_X0) mo hK zgw (4 + 15 * 0 + 0) ((wB_get 0 0 (by omega) (by omega)).trans wR_0) rfl 2 (by decide) (mts _ (List.mem_of_getElem? (i := 5) rfl)) (fun _ h9 => h9) rfl dX4_digest_70 ?_
          refine z_iconst mx mb dX4_digest_73 ?_
          refine z_iald mx mb hK zgw (4 + 15 * 0 + 7) 0 ((wB_get 0 7 (by omega) (by omega)).trans wR_7) rfl (by decide) (by omega) dX4_digest_74 ?_
          refine z_top (show ((S 0) 7) 0 = f 4 from by exact s0) ?_
          refine z_sipush mx mb dX4_digest_75 (by decide +kernel) ?_
          refine z_callI0 (As := [.int (iZ (f 4)), .int (iZ 2000)]) (rest := [.long (lZ (dgL f (dgT f (dgB f (dgC f hx)))))]) ⟨mx, mb, mml, mo, mts⟩ hK hA (fun sz => c_X4_nextValley l D sz y o a S tb x ln sc f (f 4) 2000 hR hI kp (by omega) (by omega)) (cwV 2 mts gX4_digest_X4_nextValley rfl rfl rfl (by decide +kernel) ⟨Nat.le_of_ble_eq_true rfl, Nat.le_of_ble_eq_true rfl⟩) 0 wB_0 rfl rfl rfl rfl (Nat.le_of_ble_eq_true rfl) ⟨Nat.zero_le _, Nat.zero_le _⟩ dX4_digest_78 (fun r78 u78 hu78 => ?_)
          obtain ⟨er78, so78⟩ := hu78
          obtain rfl : r78 = iZ (toValley (zu f 4 (f 4)) 2000) := er78
          show Gz pp l ee ({ frames := 6, cells := 0, slots := 0, locals := 134 } : Room) ss mm args below meth cd 4 0 0 Q (Zw D vwCl (va_A wst sz) ss (wBq y o a u78 tb x ln sc (sav a) p6)) 81 [(1, .long (lZ (dgL f (dgT f (dgB f (dgC f hx)))))), (0, .ref (o 0)), (3, .int (iZ x3))] [.int (iZ (toValley (zu f 4 (f 4)) 2000)), .long (lZ (dgL f (dgT f (dgB f (dgC f hx)))))]
          refine z_top (show toValley (zu f 4 (f 4)) 2000 = toValley f 2000 from by rw [show zu f 4 (f 4) = f from zu_id rfl]) ?_
          refine z_i2lw mx mb dX4_digest_81 ?_
          refine z_callPSl (As := [.long (lZ (dgL f (dgT f (dgB f (dgC f hx))))), .long (lZ (wz (toValley f 2000)))]) (rest := []) ⟨mx, mb, mml, mo, mts⟩ hK zgw (c_X4_hashWith l D y (dgL f (dgT f (dgB f (dgC f hx)))) (wz (toValley f 2000))) (cwS 2 mts gX4_digest_X4_hashWith rfl rfl rfl (by decide +kernel) ⟨Nat.le_of_ble_eq_true rfl, Nat.le_of_ble_eq_true rfl⟩) (fun _ h => nomatch h) rfl rfl (Nat.le_of_ble_eq_true rfl) ⟨Nat.zero_le _, Nat.zero_le _⟩ dX4_digest_82 ?_
          refine z_lstore_n mx mb dX4_digest_85 rfl (by decide) [(1, .long (lZ (31 * (dgL f (dgT f (dgB f (dgC f hx)))) + (wz (toValley f 2000))))), (0, .ref (o 0)), (3, .int (iZ x3))] rfl ?_
          refine z_lload_n mx mb dX4_digest_86 rfl 0 rfl ?_
          refine z_aload_n mx mb dX4_digest_87 rfl 1 rfl ?_
          refine z_get (C := RX4) (T := TX4) (N := 5) mx mb mts (in_X4_digest_X4) mo hK zgw 0 wB_0 rfl 4 (by decide) (mts _ (List.mem_of_getElem? (i := 6) rfl)) (fun _ h9 => h9) rfl dX4_digest_88 ?_
          refine z_i2lw mx mb dX4_digest_91 ?_
          refine z_callPSl (As := [.long (lZ (31 * (dgL f (dgT f (dgB f (dgC f hx)))) + (wz (toValley f 2000)))), .long (lZ (wz sc))]) (rest := []) ⟨mx, mb, mml, mo, mts⟩ hK zgw (c_X4_hashWith l D y (31 * (dgL f (dgT f (dgB f (dgC f hx)))) + (wz (toValley f 2000))) (wz sc)) (cwS 2 mts gX4_digest_X4_hashWith rfl rfl rfl (by decide +kernel) ⟨Nat.le_of_ble_eq_true rfl, Nat.le_of_ble_eq_true rfl⟩) (fun _ h => nomatch h) rfl rfl (Nat.le_of_ble_eq_true rfl) ⟨Nat.zero_le _, Nat.zero_le _⟩ dX4_digest_92 ?_
          rw [hQ]
          exact z_retL mx mb mr mlk hK u78 (by exact ⟨by rw [h1e]; rfl, so78⟩) rfl dX4_digest_95
        · skip
          refine z_lload_n mx mb dX4_digest_23 rfl 1 rfl ?_
          refine z_aload_n mx mb dX4_digest_24 rfl 0 rfl ?_
          refine z_iload_n mx mb dX4_digest_25 rfl 2 rfl ?_
          refine z_top (show x3 = (i : Int) from by exact e3) ?_
          refine z_callI0 (As := [.int (iZ (i : Int))]) (rest := [.long (lZ hx)]) ⟨mx, mb, mml, mo, mts⟩ hK hA (fun sz => c_X4_value l D sz y o a S tb x ln sc f (i : Int) hR hI kp (by omega)) (cwV 1 mts gX4_digest_X4_value rfl rfl rfl (by decide +kernel) ⟨Nat.le_of_ble_eq_true rfl, Nat.le_of_ble_eq_true rfl⟩) 0 wB_0 rfl rfl rfl rfl (Nat.le_of_ble_eq_true rfl) ⟨Nat.zero_le _, Nat.zero_le _⟩ dX4_digest_26 (fun r26 u26 hu26 => ?_)
          obtain rfl : r26 = iZ (valueOf f (i : Int)) := hu26
          show Gz pp l ee ({ frames := 6, cells := 0, slots := 0, locals := 134 } : Room) ss mm args below meth cd 4 0 0 Q (Zw D vwCl (va_A wst sz) ss (wBq y o a S tb x ln sc (sav a) p6)) 29 [(0, .ref (o 0)), (1, .long (lZ hx)), (3, .int (iZ x3))] [.int (iZ (valueOf f (i : Int))), .long (lZ hx)]
          refine z_i2lw mx mb dX4_digest_29 ?_
          refine z_callPSl (As := [.long (lZ hx), .long (lZ (wz (valueOf f (i : Int))))]) (rest := []) ⟨mx, mb, mml, mo, mts⟩ hK zgw (c_X4_hashWith l D y hx (wz (valueOf f (i : Int)))) (cwS 2 mts gX4_digest_X4_hashWith rfl rfl rfl (by decide +kernel) ⟨Nat.le_of_ble_eq_true rfl, Nat.le_of_ble_eq_true rfl⟩) (fun _ h => nomatch h) rfl rfl (Nat.le_of_ble_eq_true rfl) ⟨Nat.zero_le _, Nat.zero_le _⟩ dX4_digest_30 ?_
          refine z_lstore_n mx mb dX4_digest_33 rfl (by decide) [(1, .long (lZ (31 * hx + (wz (valueOf f (i : Int)))))), (0, .ref (o 0)), (3, .int (iZ x3))] rfl ?_
          refine z_iinc mx mb dX4_digest_34 2 rfl (by decide) [(3, .int (iZ (x3 + 1))), (1, .long (lZ (31 * hx + (wz (valueOf f (i : Int)))))), (0, .ref (o 0))] rfl ?_
          refine z_goto (tgt := 17) mx mb dX4_digest_37 (by decide) ?_
          refine z_lv [2, 1, 0] rfl ?_
          exact ih (i + 1) _ _ (by omega) (by omega) (by omega) (by rw [eh]; rfl)
    refine z_lv [2, 1, 0] rfl ?_
    exact lp17 _ 0 0 _ (Nat.lt_succ_self _) (by omega) (by rfl) (by rfl)
  subst hQ
  subst hw0
  exact hstart

theorem in_X4_meanWarmth_X0 : ∀ w ∈ wsX00, w ∈ wsX4_meanWarmth := by decide +kernel
theorem in_X4_meanWarmth_X3 : ∀ w ∈ wsX30, w ∈ wsX4_meanWarmth := by decide +kernel
theorem in_X4_meanWarmth_X4 : ∀ w ∈ wsX40, w ∈ wsX4_meanWarmth := by decide +kernel
set_option maxRecDepth 100000 in
set_option maxHeartbeats 4000000 in
theorem c_X4_meanWarmth (l : Launch) (D : va_G) (sz : Nat) (y : Nat → ClassId) (o : Nat → Nat) (a : Nat → Nat → Nat) (S : Nat → Nat → Int → Int) (tb : Nat → Nat) (x : Int → Int) (ln sc : Int) (f : Int → Int) (hR : Rel f (S 0)) (hI : Inv 100000 f) (kp : Kp f) : Met l yX4_meanWarmth wsX4_meanWarmth ({ frames := 0, cells := 0, slots := 0, locals := 0 } : Room) (zPw D vwCl (zT y) (wBq y o a S tb x ln sc (sav a) p6) sz [.ref (o 0)]) (va_Qd (fun (r : UInt64) (_ : Unit) => r = warmM f) (zB D vwCl (zT y) (wBq y o a S tb x ln sc (sav a) p6) sz (fun _ : Unit => wBq y o a S tb x ln sc (sav a) p6)) (va_A (wBq y o a S tb x ln sc (sav a) p6) sz)) 0 0 (va_A (wBq y o a S tb x ln sc (sav a) p6) sz) := by
  refine z_headW (cc := cX4_meanWarmth) (maxL := 3) (ret := (some .double)) [(0, .ref (o 0))] rfl (Nat.le_of_ble_eq_true rfl) (by decide +kernel) rfl ?_
  intro pp ee ss mm below meth cd mx mb mr mml mo mts mlk hK hname hsz hA
  generalize ([.ref (o 0)] : List Value).toArray = args at mts ⊢
  obtain ⟨wst, hw0⟩ : ∃ wst, wst = wBq y o a S tb x ln sc (sav a) p6 := ⟨_, rfl⟩
  have hA : ∀ q, ss.heap.size ≤ q → va_A wst sz q := by rw [hw0]; exact hA
  obtain ⟨Q, hQ⟩ : ∃ Q, Q = MQ below (va_Qd (fun (r : UInt64) (_ : Unit) => r = warmM f) (zB D vwCl (zT y) wst sz (fun _ : Unit => wBq y o a S tb x ln sc (sav a) p6)) (va_A wst sz)) args ss 0 0 (va_A wst sz) := ⟨_, rfl⟩
  have hstart : Gz pp l ee ({ frames := 0, cells := 0, slots := 0, locals := 0 } : Room) ss mm args below meth cd 3 0 0 Q (Zw D vwCl (va_A wst sz) ss (wBq y o a S tb x ln sc (sav a) p6)) 0 [(0, .ref (o 0))] [] := by
    obtain ⟨hW, hN, hT⟩ := (Inv_Jy hI).f
    obtain ⟨w0, w1, w2, w3, w4, w5, w6⟩ := id hW
    obtain ⟨n3, n4, n5, n6, n7, n8, n9, n10⟩ := id hN
    obtain ⟨⟨r0, r1, r2, r3, r4⟩, rc, rb, ⟨s0, s1, s2, s3⟩, rt, rl⟩ := id hR
    refine z_aload_n mx mb dX4_meanWarmth_0 rfl 0 rfl ?_
    refine z_get (C := RX4) (T := TX4) (N := 5) mx mb mts (in_X4_meanWarmth_X4) mo hK zgw 0 wB_0 rfl 0 (by decide) (mts _ (List.mem_of_getElem? (i := 1) rfl)) (fun _ h9 => h9) rfl dX4_meanWarmth_1 ?_
    refine z_get (C := RX0) (T := TX0) (N := 9) mx mb mts (in_X4_meanWarmth_X0) mo hK zgw (4 + 15 * 0 + 0) ((wB_get 0 0 (by omega) (by omega)).trans wR_0) rfl 6 (by decide) (mts _ (List.mem_of_getElem? (i := 2) rfl)) (fun _ h9 => h9) rfl dX4_meanWarmth_4 ?_
    refine z_top (show (S 0) 0 0 = f 2 from by exact r2) ?_
    refine z_if_ne (tgt := 12) mx mb (by omega) dX4_meanWarmth_7 (by decide) (fun c7 => ?_) (fun c7 => ?_)
    · skip
      refine z_iconst mx mb dX4_meanWarmth_12 ?_
      refine z_istore_n mx mb dX4_meanWarmth_13 rfl (by decide) [(1, .int (iZ 0)), (0, .ref (o 0))] rfl ?_
      refine z_iconst mx mb dX4_meanWarmth_14 ?_
      refine z_istore_n mx mb dX4_meanWarmth_15 rfl (by decide) [(2, .int (iZ 0)), (1, .int (iZ 0)), (0, .ref (o 0))] rfl ?_
      have lp16 : ∀ (nn : Nat) (i : Nat) (x1 x2 : Int), (f 2).toNat - i < nn → ((i : Int) ≤ f 2) → (x2 = (i : Int)) → (x1 = wsum f i) → (0 ≤ x1 ∧ x1 ≤ 100 * (i : Int)) → Gz pp l ee ({ frames := 0, cells := 0, slots := 0, locals := 0 } : Room) ss mm args below meth cd 3 0 0 Q (Zw D vwCl (va_A wst sz) ss (wBq y o a S tb x ln sc (sav a) p6)) 16 [(0, .ref (o 0)), (1, .int (iZ x1)), (2, .int (iZ x2))] [] := by
        intro nn
        induction nn with
        | zero => exact fun i x1 x2 hm => absurd hm (Nat.not_lt_zero _)
        | succ nn ih =>
          intro i x1 x2 hm hi e2 e1 hr
          refine z_iload_n mx mb dX4_meanWarmth_16 rfl 2 rfl ?_
          refine z_aload_n mx mb dX4_meanWarmth_17 rfl 0 rfl ?_
          refine z_get (C := RX4) (T := TX4) (N := 5) mx mb mts (in_X4_meanWarmth_X4) mo hK zgw 0 wB_0 rfl 0 (by decide) (mts _ (List.mem_of_getElem? (i := 1) rfl)) (fun _ h9 => h9) rfl dX4_meanWarmth_18 ?_
          refine z_get (C := RX0) (T := TX0) (N := 9) mx mb mts (in_X4_meanWarmth_X0) mo hK zgw (4 + 15 * 0 + 0) ((wB_get 0 0 (by omega) (by omega)).trans wR_0) rfl 6 (by decide) (mts _ (List.mem_of_getElem? (i := 2) rfl)) (fun _ h9 => h9) rfl dX4_meanWarmth_21 ?_
          refine z_top (show (S 0) 0 0 = f 2 from by exact r2) ?_
          refine z_icmp_ge (tgt := 48) mx mb (by omega) (by omega) dX4_meanWarmth_24 (by decide) (fun c24 => ?_) (fun c24 => ?_)
          · skip
            have hi2 : i = (f 2).toNat := by omega
            refine z_iload_n mx mb dX4_meanWarmth_48 rfl 1 rfl ?_
            refine z_i2d mx mb dX4_meanWarmth_49 ?_
            refine z_aload_n mx mb dX4_meanWarmth_50 rfl 0 rfl ?_
            refine z_get (C := RX4) (T := TX4) (N := 5) mx mb mts (in_X4_meanWarmth_X4) mo hK zgw 0 wB_0 rfl 0 (by decide) (mts _ (List.mem_of_getElem? (i := 1) rfl)) (fun _ h9 => h9) rfl dX4_meanWarmth_51 ?_
            refine z_get (C := RX0) (T := TX0) (N := 9) mx mb mts (in_X4_meanWarmth_X0) mo hK zgw (4 + 15 * 0 + 0) ((wB_get 0 0 (by omega) (by omega)).trans wR_0) rfl 6 (by decide) (mts _ (List.mem_of_getElem? (i := 2) rfl)) (fun _ h9 => h9) rfl dX4_meanWarmth_54 ?_
            refine z_top (show (S 0) 0 0 = f 2 from by exact r2) ?_
            refine z_i2d mx mb dX4_meanWarmth_57 ?_
            refine z_ddiv mx mb dX4_meanWarmth_58 (dd_ok (by omega) (by omega)) ?_
            rw [hQ]
            exact z_retD mx mb mr mlk hK () (by unfold warmM; rw [if_neg c7, e1, hi2]) rfl dX4_meanWarmth_59
          · skip
            have k3 := (hT (i : Int) (by omega) (by omega)).2.2.1
            refine z_iload_n mx mb dX4_meanWarmth_27 rfl 1 rfl ?_
            refine z_aload_n mx mb dX4_meanWarmth_28 rfl 0 rfl ?_
            refine z_get (C := RX4) (T := TX4) (N := 5) mx mb mts (in_X4_meanWarmth_X4) mo hK zgw 0 wB_0 rfl 0 (by decide) (mts _ (List.mem_of_getElem? (i := 1) rfl)) (fun _ h9 => h9) rfl dX4_meanWarmth_29 ?_
            refine z_get (C := RX0) (T := TX0) (N := 9) mx mb mts (in_X4_meanWarmth_X0) mo hK zgw (4 + 15 * 0 + 0) ((wB_get 0 0 (by omega) (by omega)).trans wR_0) rfl 1 (by decide) (mts _ (List.mem_of_getElem? (i := 3) rfl)) (fun _ h9 => h9) rfl dX4_meanWarmth_32 ?_
            refine z_iload_n mx mb dX4_meanWarmth_35 rfl 2 rfl ?_
            refine z_top (show x2 = (i : Int) from by exact e2) ?_
            refine z_aald (i := i) mx mb hK zgw (4 + 15 * 0 + 6) 1 ((wB_get 0 6 (by omega) (by omega)).trans wR_6) rfl (by decide) (by omega) dX4_meanWarmth_36 ?_
            refine z_get (C := RX3) (T := TX3) (N := 8) mx mb mts (in_X4_meanWarmth_X3) mo hK zgw (4 + 15 * 0 + (8 + i)) ((wB_get 0 (8 + i) (by omega) (by omega)).trans (wR_t (by omega))) rfl 3 (by decide) (mts _ (List.mem_of_getElem? (i := 4) rfl)) (fun _ h9 => h9) rfl dX4_meanWarmth_37 ?_
            refine z_top (show (S 0) (8 + i) 3 = f (79 + 8 * (i : Int) + 3) from by exact rt i (by omega) 3 (by omega) (by omega)) ?_
            refine z_iadd mx mb dX4_meanWarmth_40 ?_
            refine z_istore_n mx mb dX4_meanWarmth_41 rfl (by decide) [(1, .int (iZ (x1 + (f (79 + 8 * (i : Int) + 3))))), (0, .ref (o 0)), (2, .int (iZ x2))] rfl ?_
            refine z_iinc mx mb dX4_meanWarmth_42 2 rfl (by decide) [(2, .int (iZ (x2 + 1))), (1, .int (iZ (x1 + (f (79 + 8 * (i : Int) + 3))))), (0, .ref (o 0))] rfl ?_
            refine z_goto (tgt := 16) mx mb dX4_meanWarmth_45 (by decide) ?_
            refine z_lv [2, 1, 0] rfl ?_
            exact ih (i + 1) _ _ (by omega) (by omega) (by omega) (by rw [e1]; rfl) (by omega)
      refine z_lv [2, 1, 0] rfl ?_
      exact lp16 _ 0 0 0 (Nat.lt_succ_self _) (by omega) (by rfl) (by rfl) (by omega)
    · skip
      refine z_dconst0 mx mb dX4_meanWarmth_10 ?_
      rw [hQ]
      exact z_retD mx mb mr mlk hK () (by unfold warmM; rw [if_pos c7]) rfl dX4_meanWarmth_11
  subst hQ
  subst hw0
  exact hstart
