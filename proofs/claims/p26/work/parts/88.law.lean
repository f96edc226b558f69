set_option maxRecDepth 100000 in
set_option maxHeartbeats 16000000 in
theorem l_law {pp : Program} {l : Launch} {ee : Env} {ss : State} {mm : MethodId} {args : Array Value} {below : List Frame} {meth : Method} {cd : Code} {b L : Nat} {xs : Nat → Int32} {D : va_G} {y : Nat → ClassId} {A9 : Nat → Prop} {Q : State → Prop} (C : LC pp l ss mm args cd b L xs D y A9)
    (K : Gz pp l ee room_1 ss mm args below meth cd 8 600172 7300668 Q (Zw D vwCl A9 ss ([] : va_W)) 460 [] [.int (iZ 1)]) : Gz pp l ee room_1 ss mm args below meth cd 8 0 0 Q (Zw D vwCl A9 ss ([] : va_W)) 0 [(0, .ref b)] [] := by
  obtain ⟨mx, mb, mml, mo, mts, hK, hE, hX, hbl, hl0, hL, hA, hbA⟩ := C
  refine z_callSE (wa := []) (wc := []) (wb := []) (As := []) (rest := []) ⟨mx, mb, mml, mo, mts⟩ hK hA hE (fun sz => c_L_texts l hl0 D sz y) (cwS 0 mts gL_law_L_texts rfl rfl rfl (by decide +kernel) ⟨Nat.le_of_ble_eq_true rfl, Nat.le_of_ble_eq_true rfl⟩) rfl rfl rfl (Nat.le_of_ble_eq_true rfl) ⟨Nat.le_of_ble_eq_true rfl, Nat.le_of_ble_eq_true rfl⟩ dL_law_0 (fun r0 u0 hu0 => ?_)
  rw [List.nil_append, List.append_nil]
  have hr := hu0
  obtain rfl : r0 = iZ 1 := hr
  show Gz pp l ee room_1 ss mm args below meth cd 8 5000 50000 Q (Zw D vwCl A9 ss ([] : va_W)) 3 [(0, .ref b)] [.int (iZ 1)]
  refine z_if_eq (tgt := 12) mx mb (by decide) dL_law_3 (by decide) (fun c3 => absurd c3 (by decide)) (fun _ => ?_)
  refine z_callSE (wa := []) (wc := []) (wb := []) (As := []) (rest := []) ⟨mx, mb, mml, mo, mts⟩ hK hA hE (fun sz => c_L_known l hl0 D sz y) (cwS 0 mts gL_law_L_known rfl rfl rfl (by decide +kernel) ⟨Nat.le_of_ble_eq_true rfl, Nat.le_of_ble_eq_true rfl⟩) rfl rfl rfl (Nat.le_of_ble_eq_true rfl) ⟨Nat.le_of_ble_eq_true rfl, Nat.le_of_ble_eq_true rfl⟩ dL_law_6 (fun r6 u6 hu6 => ?_)
  rw [List.nil_append, List.append_nil]
  have hr := hu6
  obtain rfl : r6 = iZ 1 := hr
  show Gz pp l ee room_1 ss mm args below meth cd 8 6600 62000 Q (Zw D vwCl A9 ss ([] : va_W)) 9 [(0, .ref b)] [.int (iZ 1)]
  refine z_if_ne (tgt := 14) mx mb (by decide) dL_law_9 (by decide) (fun _ => ?_) (fun c9 => absurd c9 (by decide))
  refine z_new (ci := 4) (C := RX4) (T := TX4) (N := 5) mx mb mts inlX4 tyX4_ok mo (mts _ (List.mem_of_getElem? (i := 0) rfl)) (mts _ (List.mem_of_getElem? (i := 1) rfl)) (mts _ (List.mem_of_getElem? (i := 2) rfl)) hK hA rfl [.null, .null, .null, .null, .int (iZ 0)] (by decide) (Nat.le_of_ble_eq_true rfl) (Nat.le_of_ble_eq_true rfl) dL_law_14 (fun q14 => ?_)
  show Gz pp l ee room_1 ss mm args below meth cd 8 6601 62005 Q (Zw D vwCl A9 ss ([(q14, .inr (4, [.null, .null, .null, .null, .int (iZ 0)]))] : va_W)) 17 [(0, .ref b)] [.ref q14]
  refine z_dup mx mb dL_law_17 rfl ?_
  refine z_callCE (wa := []) (wc := ([(q14, .inr (4, [.null, .null, .null, .null, .int (iZ 0)]))] : va_W)) (wb := []) (As := []) (rest := [.ref q14]) ⟨mx, mb, mml, mo, mts⟩ hK hA hE (fun sz => c_X4_init l D sz y q14) (cwI 0 mts gL_law_X4_init rfl rfl rfl (mts _ (List.mem_of_getElem? (i := 2) rfl)) (mts _ (List.mem_of_getElem? (i := 30) rfl)) (mts _ (List.mem_of_getElem? (i := 31) rfl)) rfl (by decide +kernel) ⟨Nat.le_of_ble_eq_true rfl, Nat.le_of_ble_eq_true rfl⟩) (List.append_nil _).symm rfl rfl (Nat.le_of_ble_eq_true rfl) ⟨Nat.le_of_ble_eq_true rfl, Nat.le_of_ble_eq_true rfl⟩ dL_law_18 (fun u18 hu18 => ?_)
  rw [List.nil_append, List.append_nil]
  obtain ⟨o18, a18, S18, tb18⟩ := u18
  obtain ⟨h018, hR18⟩ := hu18
  replace h018 : o18 0 = q14 := h018
  subst h018
  have hT18 : Tie new0 S18 := tie_new hR18
  show Gz pp l ee room_1 ss mm args below meth cd 8 6696 63519 Q (Zw D vwCl A9 ss (wC y o18 a18 S18 tb18 new0)) 21 [(0, .ref b)] [.ref (o18 0)]
  refine z_astore_n mx mb dL_law_21 rfl (by decide) [(1, .ref (o18 0)), (0, .ref b)] rfl ?_
  refine z_bipush mx mb dL_law_22 (by decide +kernel) ?_
  refine z_newL mx mb (mts _ (List.mem_of_getElem? (i := 3) rfl)) hK hA 3 rfl (N := 32) rfl (by decide) (Nat.le_of_ble_eq_true rfl) (Nat.le_of_ble_eq_true rfl) dL_law_24 (fun ob => ?_)
  show Gz pp l ee room_1 ss mm args below meth cd 8 6697 63551 Q (Zw D vwCl A9 ss ((wC y o18 a18 S18 tb18 new0) ++ ([(ob, .inl (y 3, 32, .inr (.inl (fun _ => 0))))] : va_W))) 26 [(1, .ref (o18 0)), (0, .ref b)] [.ref ob]
  refine z_astore_n mx mb dL_law_26 rfl (by decide) [(2, .ref ob), (1, .ref (o18 0)), (0, .ref b)] rfl ?_
  refine z_iconst mx mb dL_law_27 ?_
  refine z_istore_n mx mb dL_law_28 rfl (by decide) [(3, .int (iZ 0)), (2, .ref ob), (1, .ref (o18 0)), (0, .ref b)] rfl ?_
  refine z_iconst mx mb dL_law_29 ?_
  refine z_istore mx mb dL_law_30 (by decide) [(4, .int (iZ 0)), (3, .int (iZ 0)), (2, .ref ob), (1, .ref (o18 0)), (0, .ref b)] rfl ?_
  have lp32 : ∀ (nn : Nat) (i1 : Nat) (x4 : Int) (m1 : Nat) (x3 : Int) (c9 : CSt) (g9 : Nat → Int64) (a9 : Nat → Nat → Nat) (S9 : Nat → Nat → Int → Int) (k1 n1 : Nat), 24 - i1 < nn → (i1 ≤ 24) → (x4 = (i1 : Int)) → (m1 ≤ i1) → (x3 = (m1 : Int)) → (c9.2.2.1 = c4 m1) → (c9.2.2.2.2 = 0) → (Wg g9 m1 c9) → (k1 ≤ 8000 + 1100 * i1) → (n1 ≤ 80000 + 7000 * i1) → (Tie c9 S9) → Gz pp l ee room_1 ss mm args below meth cd 8 k1 n1 Q (Zw D vwCl A9 ss ((wC y o18 a9 S9 tb18 c9) ++ ([(ob, .inl (y 3, 32, .inr (.inl g9)))] : va_W))) 32 [(0, .ref b), (1, .ref (o18 0)), (2, .ref ob), (3, .int (iZ x3)), (4, .int (iZ x4))] [] := by
    intro nn
    induction nn with
    | zero => exact fun i1 x4 m1 x3 c9 g9 a9 S9 k1 n1 hm => absurd hm (Nat.not_lt_zero _)
    | succ nn ih32 =>
      intro i1 x4 m1 x3 c9 g9 a9 S9 k1 n1 hm h9i h9e h9m h9x h9c h9l h9g h9k h9n h9T
      obtain ⟨⟨hR, hI, kp, lp⟩, hsc, hTS, hl, htx⟩ := id h9T
      have hW := (Inv_Jy hI).f.1
      have w0 := hW.1; have w1 := hW.2.1; have w2 := hW.2.2.1
      refine z_iload mx mb dL_law_32 4 rfl ?_
      refine z_bipush mx mb dL_law_34 (by decide +kernel) ?_
      refine z_icmp_ge (tgt := 252) mx mb (by omega) (by omega) dL_law_36 (by decide) (fun c36 => ?_) (fun c36 => ?_)
      · skip
        have ei : i1 = 24 := by omega
        refine z_aload_n mx mb dL_law_252 rfl 1 rfl ?_
        refine z_callSE (wa := []) (wc := (wC y o18 a9 S9 tb18 c9)) (wb := (([(ob, .inl (y 3, 32, .inr (.inl g9)))] : va_W))) (As := [.ref (o18 0)]) (rest := []) ⟨mx, mb, mml, mo, mts⟩ hK hA hE (fun sz => c_L_refused l hl0 D sz y o18 a9 S9 tb18 c9 h9T) (cwS 1 mts gL_law_L_refused rfl rfl rfl (by decide +kernel) ⟨Nat.le_of_ble_eq_true rfl, Nat.le_of_ble_eq_true rfl⟩) rfl rfl rfl (Nat.le_of_ble_eq_true rfl) ⟨by show _ ≤ 600172; omega, by show _ ≤ 7300668; omega⟩ dL_law_253 (fun r253 u253 hu253 => ?_)
        rw [List.nil_append]
        obtain ⟨a253, S253⟩ := u253
        obtain ⟨hr, hT253⟩ := hu253
        replace hT253 : Tie c9 S253 := hT253
        obtain rfl : r253 = iZ 1 := hr
        show Gz pp l ee room_1 ss mm args below meth cd 8 (k1 + 100) (n1 + 600) Q (Zw D vwCl A9 ss ((wC y o18 a253 S253 tb18 c9) ++ ([(ob, .inl (y 3, 32, .inr (.inl g9)))] : va_W))) 256 [(0, .ref b), (1, .ref (o18 0)), (2, .ref ob), (3, .int (iZ x3)), (4, .int (iZ x4))] [.int (iZ 1)]
        refine z_if_eq (tgt := 277) mx mb (by decide) dL_law_256 (by decide) (fun c256 => absurd c256 (by decide)) (fun _ => ?_)
        have jn279 : ∀ (a5 : Nat → Nat → Nat) (S5 : Nat → Nat → Int → Int) (k4 n4 : Nat), (Tie c9 S5) → (k4 ≤ 36000) → (n4 ≤ 260000) → Gz pp l ee room_1 ss mm args below meth cd 8 k4 n4 Q (Zw D vwCl A9 ss ((wC y o18 a5 S5 tb18 c9) ++ ([(ob, .inl (y 3, 32, .inr (.inl g9)))] : va_W))) 279 [(0, .ref b), (1, .ref (o18 0)), (2, .ref ob), (3, .int (iZ x3)), (4, .int (iZ x4))] [] := by
          intro a5 S5 k4 n4 hT5 hk4 hn4
          have jn361 : ∀ (k5 n5 : Nat), (k5 ≤ 60000) → (n5 ≤ 600000) → Gz pp l ee room_1 ss mm args below meth cd 8 k5 n5 Q (Zw D vwCl A9 ss ([] : va_W)) 361 [] [] := by
            intro k5 n5 hk5 hn5
            refine z_new (ci := 4) (C := RX4) (T := TX4) (N := 5) mx mb mts inlX4 tyX4_ok mo (mts _ (List.mem_of_getElem? (i := 0) rfl)) (mts _ (List.mem_of_getElem? (i := 1) rfl)) (mts _ (List.mem_of_getElem? (i := 2) rfl)) hK hA rfl [.null, .null, .null, .null, .int (iZ 0)] (by decide) (by show _ ≤ 600172; omega) (by show _ ≤ 7300668; omega) dL_law_361 (fun q361 => ?_)
            show Gz pp l ee room_1 ss mm args below meth cd 8 (k5 + 1) (n5 + 5) Q (Zw D vwCl A9 ss ([(q361, .inr (4, [.null, .null, .null, .null, .int (iZ 0)]))] : va_W)) 364 [] [.ref q361]
            refine z_dup mx mb dL_law_364 rfl ?_
            refine z_callCE (wa := []) (wc := ([(q361, .inr (4, [.null, .null, .null, .null, .int (iZ 0)]))] : va_W)) (wb := []) (As := []) (rest := [.ref q361]) ⟨mx, mb, mml, mo, mts⟩ hK hA hE (fun sz => c_X4_init l D sz y q361) (cwI 0 mts gL_law_X4_init rfl rfl rfl (mts _ (List.mem_of_getElem? (i := 2) rfl)) (mts _ (List.mem_of_getElem? (i := 30) rfl)) (mts _ (List.mem_of_getElem? (i := 31) rfl)) rfl (by decide +kernel) ⟨Nat.le_of_ble_eq_true rfl, Nat.le_of_ble_eq_true rfl⟩) (List.append_nil _).symm rfl rfl (Nat.le_of_ble_eq_true rfl) ⟨by show _ ≤ 600172; omega, by show _ ≤ 7300668; omega⟩ dL_law_365 (fun u365 hu365 => ?_)
            rw [List.nil_append, List.append_nil]
            obtain ⟨o365, a365, S365, tb365⟩ := u365
            obtain ⟨h0365, hR365⟩ := hu365
            replace h0365 : o365 0 = q361 := h0365
            subst h0365
            have hT365 : Tie new0 S365 := tie_new hR365
            show Gz pp l ee room_1 ss mm args below meth cd 8 (k5 + 1 + 95) (n5 + 5 + 1514) Q (Zw D vwCl A9 ss (wC y o365 a365 S365 tb365 new0)) 368 [] [.ref (o365 0)]
            replace hT365 : Tie K0 S365 := kt_K0 hT365
            show Gz pp l ee room_1 ss mm args below meth cd 8 (k5 + 1 + 95) (n5 + 5 + 1514) Q (Zw D vwCl A9 ss (wC y o365 a365 S365 tb365 K0)) 368 [] [.ref (o365 0)]
            refine z_astore mx mb dL_law_368 (by decide) [(4, .ref (o365 0))] rfl ?_
            refine z_iconst mx mb dL_law_370 ?_
            refine z_istore mx mb dL_law_371 (by decide) [(5, .int (iZ 0)), (4, .ref (o365 0))] rfl ?_
            have lp373 : ∀ (nn : Nat) (i3 : Nat) (x6 : Int) (c6 : CSt) (a6 : Nat → Nat → Nat) (S6 : Nat → Nat → Int → Int) (k6 n6 : Nat), 200 - i3 < nn → (i3 ≤ 200) → (x6 = (i3 : Int)) → (Pe i3 c6) → (k6 ≤ 62000 + i3) → (n6 ≤ 620000 + 6 * i3) → (Tie c6 S6) → Gz pp l ee room_1 ss mm args below meth cd 8 k6 n6 Q (Zw D vwCl A9 ss (wC y o365 a6 S6 tb365 c6)) 373 [(4, .ref (o365 0)), (5, .int (iZ x6))] [] := by
              intro nn
              induction nn with
              | zero => exact fun i3 x6 c6 a6 S6 k6 n6 hm => absurd hm (Nat.not_lt_zero _)
              | succ nn ih373 =>
                intro i3 x6 c6 a6 S6 k6 n6 hm h6i h6e h6p h6k h6n h6T
                refine z_iload mx mb dL_law_373 1 rfl ?_
                refine z_sipush mx mb dL_law_375 (by decide +kernel) ?_
                refine z_icmp_ge (tgt := 400) mx mb (by omega) (by omega) dL_law_378 (by decide) (fun c378 => ?_) (fun c378 => ?_)
                · skip
                  obtain rfl : i3 = 200 := by omega
                  refine z_aload mx mb dL_law_400 0 rfl ?_
                  refine z_iconst mx mb dL_law_402 ?_
                  refine z_callSI (wa := []) (wc := (wC y o365 a6 S6 tb365 c6)) (wb := []) (As := [.ref (o365 0), .int (iZ 1)]) (rest := []) ⟨mx, mb, mml, mo, mts⟩ hK hA hE (fun sz => c_L_passing l hl0 D sz y o365 a6 S6 tb365 c6 1 (by decide) h6T) (vx_cwSW 2 mts gL_law_L_passing rfl rfl rfl (by decide +kernel) ⟨Nat.le_of_ble_eq_true rfl, Nat.le_of_ble_eq_true rfl⟩) (List.append_nil _).symm rfl rfl (Nat.le_of_ble_eq_true rfl) ⟨by show _ ≤ 600172; omega, by show _ ≤ 7300668; omega⟩ dL_law_403 (fun r403 u403 hu403 => ?_)
                  rw [List.nil_append, List.append_nil]
                  obtain ⟨a403, S403⟩ := u403
                  obtain ⟨hr, hT403⟩ := hu403
                  replace hT403 : Tie (pasS c6 1) S403 := hT403
                  obtain rfl : r403 = iZ (-3003) := hr.trans (congrArg iZ (Pe_end h6p).1.1)
                  show Gz pp l ee room_1 ss mm args below meth cd 8 (k6 + 1) (n6 + 6) Q (Zw D vwCl A9 ss (wC y o365 a403 S403 tb365 (pasS c6 1))) 406 [(4, .ref (o365 0)), (5, .int (iZ x6))] [.int (iZ (-3003))]
                  rw [(Pe_end h6p).1.2]
                  rw [(Pe_end h6p).1.2] at hT403
                  refine z_sipush mx mb dL_law_406 (by decide +kernel) ?_
                  refine z_icmp_ne (tgt := 459) mx mb (by decide) (by decide) dL_law_409 (by decide) (fun c409 => absurd c409 (by decide)) (fun _ => ?_)
                  refine z_aload mx mb dL_law_412 0 rfl ?_
                  refine z_iconst mx mb dL_law_414 ?_
                  refine z_callSI (wa := []) (wc := (wC y o365 a403 S403 tb365 c6)) (wb := []) (As := [.ref (o365 0), .int (iZ 0)]) (rest := []) ⟨mx, mb, mml, mo, mts⟩ hK hA hE (fun sz => c_L_passing l hl0 D sz y o365 a403 S403 tb365 c6 0 (by decide) hT403) (vx_cwSW 2 mts gL_law_L_passing rfl rfl rfl (by decide +kernel) ⟨Nat.le_of_ble_eq_true rfl, Nat.le_of_ble_eq_true rfl⟩) (List.append_nil _).symm rfl rfl (Nat.le_of_ble_eq_true rfl) ⟨by show _ ≤ 600172; omega, by show _ ≤ 7300668; omega⟩ dL_law_415 (fun r415 u415 hu415 => ?_)
                  rw [List.nil_append, List.append_nil]
                  obtain ⟨a415, S415⟩ := u415
                  obtain ⟨hr, hT415⟩ := hu415
                  replace hT415 : Tie (pasS c6 0) S415 := hT415
                  obtain rfl : r415 = iZ (-3002) := hr.trans (congrArg iZ (rf_pas c6 0 (by decide)).1)
                  show Gz pp l ee room_1 ss mm args below meth cd 8 (k6 + 1 + 1) (n6 + 6 + 6) Q (Zw D vwCl A9 ss (wC y o365 a415 S415 tb365 (pasS c6 0))) 418 [(4, .ref (o365 0)), (5, .int (iZ x6))] [.int (iZ (-3002))]
                  rw [(rf_pas c6 0 (by decide)).2]
                  rw [(rf_pas c6 0 (by decide)).2] at hT415
                  refine z_sipush mx mb dL_law_418 (by decide +kernel) ?_
                  refine z_icmp_ne (tgt := 459) mx mb (by decide) (by decide) dL_law_421 (by decide) (fun c421 => absurd c421 (by decide)) (fun _ => ?_)
                  refine z_aload mx mb dL_law_424 0 rfl ?_
                  refine z_iconst mx mb dL_law_426 ?_
                  refine z_callSI (wa := []) (wc := (wC y o365 a415 S415 tb365 c6)) (wb := []) (As := [.ref (o365 0), .int (iZ 3)]) (rest := []) ⟨mx, mb, mml, mo, mts⟩ hK hA hE (fun sz => c_L_all l hl0 D sz y o365 a415 S415 tb365 c6 3 (by decide) hT415) (vx_cwSW 2 mts gL_law_L_all rfl rfl rfl (by decide +kernel) ⟨Nat.le_of_ble_eq_true rfl, Nat.le_of_ble_eq_true rfl⟩) (List.append_nil _).symm rfl rfl (Nat.le_of_ble_eq_true rfl) ⟨by show _ ≤ 600172; omega, by show _ ≤ 7300668; omega⟩ dL_law_427 (fun r427 u427 hu427 => ?_)
                  rw [List.nil_append, List.append_nil]
                  obtain ⟨a427, S427⟩ := u427
                  obtain ⟨hr, hT427⟩ := hu427
                  replace hT427 : Tie c6 S427 := hT427
                  obtain rfl : r427 = iZ 100000 := hr.trans (congrArg iZ (Pe_end h6p).2.1)
                  show Gz pp l ee room_1 ss mm args below meth cd 8 (k6 + 1 + 1 + 1) (n6 + 6 + 6 + 6) Q (Zw D vwCl A9 ss (wC y o365 a427 S427 tb365 c6)) 430 [(4, .ref (o365 0)), (5, .int (iZ x6))] [.int (iZ 100000)]
                  refine z_ldc (z := 100000) mx mb mo (mts _ (List.mem_of_getElem? (i := 5) rfl)) (by decide +kernel) dL_law_430 ?_
                  refine z_icmp_ne (tgt := 459) mx mb (by decide) (by decide) dL_law_432 (by decide) (fun c432 => absurd c432 (by decide)) (fun _ => ?_)
                  refine z_aload mx mb dL_law_435 0 rfl ?_
                  refine z_callSI (wa := []) (wc := (wC y o365 a427 S427 tb365 c6)) (wb := []) (As := [.ref (o365 0)]) (rest := []) ⟨mx, mb, mml, mo, mts⟩ hK hA hE (fun sz => c_L_undoing l hl0 D sz y o365 a427 S427 tb365 c6   hT427) (vx_cwSW 1 mts gL_law_L_undoing rfl rfl rfl (by decide +kernel) ⟨Nat.le_of_ble_eq_true rfl, Nat.le_of_ble_eq_true rfl⟩) (List.append_nil _).symm rfl rfl (Nat.le_of_ble_eq_true rfl) ⟨by show _ ≤ 600172; omega, by show _ ≤ 7300668; omega⟩ dL_law_437 (fun r437 u437 hu437 => ?_)
                  rw [List.nil_append, List.append_nil]
                  obtain ⟨a437, S437⟩ := u437
                  obtain ⟨hr, hT437⟩ := hu437
                  replace hT437 : Tie (undS c6) S437 := hT437
                  obtain rfl : r437 = iZ 3 := hr.trans (congrArg iZ (Pe_end h6p).2.2.1.1)
                  show Gz pp l ee room_1 ss mm args below meth cd 8 (k6 + 1 + 1 + 1 + 1) (n6 + 6 + 6 + 6 + 6) Q (Zw D vwCl A9 ss (wC y o365 a437 S437 tb365 (undS c6))) 440 [(4, .ref (o365 0)), (5, .int (iZ x6))] [.int (iZ 3)]
                  rw [(Pe_end h6p).2.2.1.2]
                  rw [(Pe_end h6p).2.2.1.2] at hT437
                  refine z_iconst mx mb dL_law_440 ?_
                  refine z_icmp_ne (tgt := 459) mx mb (by decide) (by decide) dL_law_441 (by decide) (fun c441 => absurd c441 (by decide)) (fun _ => ?_)
                  refine z_aload mx mb dL_law_444 0 rfl ?_
                  refine z_sipush mx mb dL_law_446 (by decide +kernel) ?_
                  refine z_callSI (wa := []) (wc := (wC y o365 a437 S437 tb365 (undn c6))) (wb := []) (As := [.ref (o365 0), .int (iZ 500)]) (rest := []) ⟨mx, mb, mml, mo, mts⟩ hK hA hE (fun sz => c_L_passing l hl0 D sz y o365 a437 S437 tb365 (undn c6) 500 (by decide) hT437) (vx_cwSW 2 mts gL_law_L_passing rfl rfl rfl (by decide +kernel) ⟨Nat.le_of_ble_eq_true rfl, Nat.le_of_ble_eq_true rfl⟩) (List.append_nil _).symm rfl rfl (Nat.le_of_ble_eq_true rfl) ⟨by show _ ≤ 600172; omega, by show _ ≤ 7300668; omega⟩ dL_law_449 (fun r449 u449 hu449 => ?_)
                  rw [List.nil_append, List.append_nil]
                  obtain ⟨a449, S449⟩ := u449
                  obtain ⟨hr, hT449⟩ := hu449
                  replace hT449 : Tie (pasS (undn c6) 500) S449 := hT449
                  obtain rfl : r449 = iZ 0 := hr.trans (congrArg iZ (Pe_end h6p).2.2.2)
                  show Gz pp l ee room_1 ss mm args below meth cd 8 (k6 + 1 + 1 + 1 + 1 + 1) (n6 + 6 + 6 + 6 + 6 + 6) Q (Zw D vwCl A9 ss (wC y o365 a449 S449 tb365 (pasS (undn c6) 500))) 452 [(4, .ref (o365 0)), (5, .int (iZ x6))] [.int (iZ 0)]
                  refine z_if_ne (tgt := 459) mx mb (by decide) dL_law_452 (by decide) (fun c452 => absurd c452 (by decide)) (fun _ => ?_)
                  refine z_iconst mx mb dL_law_455 ?_
                  refine z_goto (tgt := 460) mx mb dL_law_456 (by decide) ?_
                  rw [← List.append_nil (wC y o365 a449 S449 tb365 (pasS (undn c6) 500))]
                  refine z_dropL ?_
                  refine z_lv [] rfl ?_
                  refine z_widen (k1 := 600172) (n1 := 7300668) (by omega) (by omega) ?_
                  exact K
                · skip
                  refine z_aload mx mb dL_law_381 0 rfl ?_
                  refine z_sipush mx mb dL_law_383 (by decide +kernel) ?_
                  refine z_callSI (wa := []) (wc := (wC y o365 a6 S6 tb365 c6)) (wb := []) (As := [.ref (o365 0), .int (iZ 500)]) (rest := []) ⟨mx, mb, mml, mo, mts⟩ hK hA hE (fun sz => c_L_passing l hl0 D sz y o365 a6 S6 tb365 c6 500 (by decide) h6T) (vx_cwSW 2 mts gL_law_L_passing rfl rfl rfl (by decide +kernel) ⟨Nat.le_of_ble_eq_true rfl, Nat.le_of_ble_eq_true rfl⟩) (List.append_nil _).symm rfl rfl (Nat.le_of_ble_eq_true rfl) ⟨by show _ ≤ 600172; omega, by show _ ≤ 7300668; omega⟩ dL_law_386 (fun r386 u386 hu386 => ?_)
                  rw [List.nil_append, List.append_nil]
                  obtain ⟨a386, S386⟩ := u386
                  obtain ⟨hr, hT386⟩ := hu386
                  replace hT386 : Tie (pasS c6 500) S386 := hT386
                  obtain rfl : r386 = iZ 0 := hr.trans (congrArg iZ (Pe_step (by omega) h6p h6T.2.1).1)
                  show Gz pp l ee room_1 ss mm args below meth cd 8 (k6 + 1) (n6 + 6) Q (Zw D vwCl A9 ss (wC y o365 a386 S386 tb365 (pasS c6 500))) 389 [(4, .ref (o365 0)), (5, .int (iZ x6))] [.int (iZ 0)]
                  refine z_if_eq (tgt := 394) mx mb (by decide) dL_law_389 (by decide) (fun _ => ?_) (fun c389 => absurd c389 (by decide))
                  refine z_iinc mx mb dL_law_394 1 rfl (by decide) [(5, .int (iZ (x6 + 1))), (4, .ref (o365 0))] rfl ?_
                  refine z_goto (tgt := 373) mx mb dL_law_397 (by decide) ?_
                  refine z_lv [1, 0] rfl ?_
                  exact ih373 (i3 + 1) _ (pasS c6 500) a386 S386 (k6 + 1) (n6 + 6) (by omega) (by omega) (by omega) (by exact (Pe_step (by omega) h6p h6T.2.1).2) (by omega) (by omega) (by exact hT386)
            refine z_lv [1, 0] rfl ?_
            exact lp373 _ 0 0 K0 a365 S365 (k5 + 1 + 95) (n5 + 5 + 1514) (Nat.lt_succ_self _) (by omega) (by rfl) (by exact Pe_0) (by omega) (by omega) (by exact hT365)
          refine z_iconst mx mb dL_law_279 ?_
          refine z_istore mx mb dL_law_280 (by decide) [(4, .int (iZ 1)), (0, .ref b), (1, .ref (o18 0)), (2, .ref ob), (3, .int (iZ x3))] rfl ?_
          have lp282 : ∀ (nn : Nat) (i2 : Nat) (x5 : Int) (c7 : CSt) (a7 : Nat → Nat → Nat) (S7 : Nat → Nat → Int → Int) (k3 n3 : Nat), 4 - i2 < nn → (i2 ≤ 4) → (i2 ≤ m1) → (x5 = (i2 : Int) + 1) → (c7.2.2.1 = c4 m1 - (i2 : Int)) → (Wg g9 (m1 - i2) c7) → (k3 ≤ 36000 + 600 * i2) → (n3 ≤ 260000 + 4000 * i2) → (Tie c7 S7) → Gz pp l ee room_1 ss mm args below meth cd 8 k3 n3 Q (Zw D vwCl A9 ss ((wC y o18 a7 S7 tb18 c7) ++ ([(ob, .inl (y 3, 32, .inr (.inl g9)))] : va_W))) 282 [(0, .ref b), (1, .ref (o18 0)), (2, .ref ob), (3, .int (iZ x3)), (4, .int (iZ x5))] [] := by
            intro nn
            induction nn with
            | zero => exact fun i2 x5 c7 a7 S7 k3 n3 hm => absurd hm (Nat.not_lt_zero _)
            | succ nn ih282 =>
              intro i2 x5 c7 a7 S7 k3 n3 hm h7i h7m h7e h7c h7g h7k h7n h7T
              have q4 : (m1 < 4 ∧ c4 m1 = (m1 : Int)) ∨ (4 ≤ m1 ∧ c4 m1 = 4) := by unfold c4; split <;> omega
              have h7s := h7T.2.1
              refine z_iload mx mb dL_law_282 4 rfl ?_
              refine z_iconst mx mb dL_law_284 ?_
              refine z_icmp_gt (tgt := 344) mx mb (by omega) (by omega) dL_law_285 (by decide) (fun c285 => ?_) (fun c285 => ?_)
              · skip
                refine z_iload_n mx mb dL_law_344 rfl 3 rfl ?_
                refine z_iconst mx mb dL_law_345 ?_
                refine z_icmp_le (tgt := 361) mx mb (by omega) (by omega) dL_law_346 (by decide) (fun c346 => ?_) (fun c346 => ?_)
                · skip
                  refine z_lv [] rfl ?_
                  rw [← List.append_nil ((wC y o18 a7 S7 tb18 c7) ++ ([(ob, .inl (y 3, 32, .inr (.inl g9)))] : va_W))]
                  refine z_dropL ?_
                  exact jn361 k3 n3 (by omega) (by omega)
                · skip
                  refine z_aload_n mx mb dL_law_349 rfl 1 rfl ?_
                  refine z_callSI (wa := []) (wc := (wC y o18 a7 S7 tb18 c7)) (wb := (([(ob, .inl (y 3, 32, .inr (.inl g9)))] : va_W))) (As := [.ref (o18 0)]) (rest := []) ⟨mx, mb, mml, mo, mts⟩ hK hA hE (fun sz => c_L_undoing l hl0 D sz y o18 a7 S7 tb18 c7   h7T) (vx_cwSW 1 mts gL_law_L_undoing rfl rfl rfl (by decide +kernel) ⟨Nat.le_of_ble_eq_true rfl, Nat.le_of_ble_eq_true rfl⟩) rfl rfl rfl (Nat.le_of_ble_eq_true rfl) ⟨by show _ ≤ 600172; omega, by show _ ≤ 7300668; omega⟩ dL_law_350 (fun r350 u350 hu350 => ?_)
                  rw [List.nil_append]
                  obtain ⟨a350, S350⟩ := u350
                  obtain ⟨hr, hT350⟩ := hu350
                  replace hT350 : Tie (undS c7) S350 := hT350
                  obtain rfl : r350 = iZ (-3003) := hr.trans (congrArg iZ (und_0 (st := c7) (by omega)).1)
                  show Gz pp l ee room_1 ss mm args below meth cd 8 (k3 + 1) (n3 + 6) Q (Zw D vwCl A9 ss ((wC y o18 a350 S350 tb18 (undS c7)) ++ ([(ob, .inl (y 3, 32, .inr (.inl g9)))] : va_W))) 353 [(0, .ref b), (1, .ref (o18 0)), (2, .ref ob), (3, .int (iZ x3)), (4, .int (iZ x5))] [.int (iZ (-3003))]
                  rw [(und_0 (st := c7) (by omega)).2]
                  rw [(und_0 (st := c7) (by omega)).2] at hT350
                  refine z_sipush mx mb dL_law_353 (by decide +kernel) ?_
                  refine z_icmp_eq (tgt := 361) mx mb (by decide) (by decide) dL_law_356 (by decide) (fun _ => ?_) (fun c356 => absurd c356 (by decide))
                  refine z_lv [] rfl ?_
                  rw [← List.append_nil ((wC y o18 a350 S350 tb18 c7) ++ ([(ob, .inl (y 3, 32, .inr (.inl g9)))] : va_W))]
                  refine z_dropL ?_
                  exact jn361 (k3 + 1) (n3 + 6) (by omega) (by omega)
              · skip
                refine z_iload mx mb dL_law_288 4 rfl ?_
                refine z_iload_n mx mb dL_law_290 rfl 3 rfl ?_
                refine z_icmp_gt (tgt := 344) mx mb (by omega) (by omega) dL_law_291 (by decide) (fun c291 => ?_) (fun c291 => ?_)
                · skip
                  refine z_iload_n mx mb dL_law_344 rfl 3 rfl ?_
                  refine z_iconst mx mb dL_law_345 ?_
                  refine z_icmp_le (tgt := 361) mx mb (by omega) (by omega) dL_law_346 (by decide) (fun c346 => ?_) (fun c346 => ?_)
                  · skip
                    refine z_lv [] rfl ?_
                    rw [← List.append_nil ((wC y o18 a7 S7 tb18 c7) ++ ([(ob, .inl (y 3, 32, .inr (.inl g9)))] : va_W))]
                    refine z_dropL ?_
                    exact jn361 k3 n3 (by omega) (by omega)
                  · skip
                    refine z_aload_n mx mb dL_law_349 rfl 1 rfl ?_
                    refine z_callSI (wa := []) (wc := (wC y o18 a7 S7 tb18 c7)) (wb := (([(ob, .inl (y 3, 32, .inr (.inl g9)))] : va_W))) (As := [.ref (o18 0)]) (rest := []) ⟨mx, mb, mml, mo, mts⟩ hK hA hE (fun sz => c_L_undoing l hl0 D sz y o18 a7 S7 tb18 c7   h7T) (vx_cwSW 1 mts gL_law_L_undoing rfl rfl rfl (by decide +kernel) ⟨Nat.le_of_ble_eq_true rfl, Nat.le_of_ble_eq_true rfl⟩) rfl rfl rfl (Nat.le_of_ble_eq_true rfl) ⟨by show _ ≤ 600172; omega, by show _ ≤ 7300668; omega⟩ dL_law_350 (fun r350 u350 hu350 => ?_)
                    rw [List.nil_append]
                    obtain ⟨a350, S350⟩ := u350
                    obtain ⟨hr, hT350⟩ := hu350
                    replace hT350 : Tie (undS c7) S350 := hT350
                    obtain rfl : r350 = iZ (-3003) := hr.trans (congrArg iZ (und_0 (st := c7) (by omega)).1)
                    show Gz pp l ee room_1 ss mm args below meth cd 8 (k3 + 1) (n3 + 6) Q (Zw D vwCl A9 ss ((wC y o18 a350 S350 tb18 (undS c7)) ++ ([(ob, .inl (y 3, 32, .inr (.inl g9)))] : va_W))) 353 [(0, .ref b), (1, .ref (o18 0)), (2, .ref ob), (3, .int (iZ x3)), (4, .int (iZ x5))] [.int (iZ (-3003))]
                    rw [(und_0 (st := c7) (by omega)).2]
                    rw [(und_0 (st := c7) (by omega)).2] at hT350
                    refine z_sipush mx mb dL_law_353 (by decide +kernel) ?_
                    refine z_icmp_eq (tgt := 361) mx mb (by decide) (by decide) dL_law_356 (by decide) (fun _ => ?_) (fun c356 => absurd c356 (by decide))
                    refine z_lv [] rfl ?_
                    rw [← List.append_nil ((wC y o18 a350 S350 tb18 c7) ++ ([(ob, .inl (y 3, 32, .inr (.inl g9)))] : va_W))]
                    refine z_dropL ?_
                    exact jn361 (k3 + 1) (n3 + 6) (by omega) (by omega)
                · skip
                  refine z_aload_n mx mb dL_law_294 rfl 1 rfl ?_
                  refine z_callSI (wa := []) (wc := (wC y o18 a7 S7 tb18 c7)) (wb := (([(ob, .inl (y 3, 32, .inr (.inl g9)))] : va_W))) (As := [.ref (o18 0)]) (rest := []) ⟨mx, mb, mml, mo, mts⟩ hK hA hE (fun sz => c_L_undoing l hl0 D sz y o18 a7 S7 tb18 c7   h7T) (vx_cwSW 1 mts gL_law_L_undoing rfl rfl rfl (by decide +kernel) ⟨Nat.le_of_ble_eq_true rfl, Nat.le_of_ble_eq_true rfl⟩) rfl rfl rfl (Nat.le_of_ble_eq_true rfl) ⟨by show _ ≤ 600172; omega, by show _ ≤ 7300668; omega⟩ dL_law_295 (fun r295 u295 hu295 => ?_)
                  rw [List.nil_append]
                  obtain ⟨a295, S295⟩ := u295
                  obtain ⟨hr, hT295⟩ := hu295
                  replace hT295 : Tie (undS c7) S295 := hT295
                  obtain rfl : r295 = iZ (c7.2.2.1 - 1) := hr.trans (congrArg iZ (und_n (st := c7) (by omega)).1)
                  show Gz pp l ee room_1 ss mm args below meth cd 8 (k3 + 1) (n3 + 6) Q (Zw D vwCl A9 ss ((wC y o18 a295 S295 tb18 (undS c7)) ++ ([(ob, .inl (y 3, 32, .inr (.inl g9)))] : va_W))) 298 [(0, .ref b), (1, .ref (o18 0)), (2, .ref ob), (3, .int (iZ x3)), (4, .int (iZ x5))] [.int (iZ (c7.2.2.1 - 1))]
                  rw [(und_n (st := c7) (by omega)).2]
                  rw [(und_n (st := c7) (by omega)).2] at hT295
                  refine z_istore mx mb dL_law_298 (by decide) [(5, .int (iZ (c7.2.2.1 - 1))), (0, .ref b), (1, .ref (o18 0)), (2, .ref ob), (3, .int (iZ x3)), (4, .int (iZ x5))] rfl ?_
                  refine z_iload mx mb dL_law_300 0 rfl ?_
                  refine z_if_lt (tgt := 336) mx mb (by omega) dL_law_302 (by decide) (fun c302 => absurd c302 (by omega)) (fun c302 => ?_)
                  refine z_aload_n mx mb dL_law_305 rfl 2 rfl ?_
                  refine z_ldc2 (z := 5) mx mb mo (mts _ (List.mem_of_getElem? (i := 4) rfl)) (by decide +kernel) dL_law_306 ?_
                  refine z_callSEl (wa := []) (wc := (wC y o18 a295 S295 tb18 (undn c7))) (wb := (([(ob, .inl (y 3, 32, .inr (.inl g9)))] : va_W))) (As := [.ref (o18 0), .long (lZ 5)]) (rest := []) ⟨mx, mb, mml, mo, mts⟩ hK hA hE (fun sz => c_L_from l hl0 D sz y o18 a295 S295 tb18 (undn c7) 5 hT295) (cwS 2 mts gL_law_L_from rfl rfl rfl (by decide +kernel) ⟨Nat.le_of_ble_eq_true rfl, Nat.le_of_ble_eq_true rfl⟩) rfl rfl rfl (Nat.le_of_ble_eq_true rfl) ⟨by show _ ≤ 600172; omega, by show _ ≤ 7300668; omega⟩ dL_law_309 (fun r309 u309 hu309 => ?_)
                  rw [List.nil_append]
                  obtain ⟨a309, S309⟩ := u309
                  obtain ⟨hr, hT309⟩ := hu309
                  replace hT309 : Tie (undn c7) S309 := hT309
                  obtain rfl : r309 = lZ (fromH (undn c7).1 5) := hr
                  show Gz pp l ee room_1 ss mm args below meth cd 8 (k3 + 1 + 500) (n3 + 6 + 3000) Q (Zw D vwCl A9 ss ((wC y o18 a309 S309 tb18 (undn c7)) ++ ([(ob, .inl (y 3, 32, .inr (.inl g9)))] : va_W))) 312 [(5, .int (iZ (c7.2.2.1 - 1))), (0, .ref b), (1, .ref (o18 0)), (2, .ref ob), (3, .int (iZ x3)), (4, .int (iZ x5))] [.long (lZ (fromH (undn c7).1 5))]
                  refine z_aload_n mx mb dL_law_312 rfl 3 rfl ?_
                  refine z_iload_n mx mb dL_law_313 rfl 4 rfl ?_
                  refine z_iload mx mb dL_law_314 5 rfl ?_
                  refine z_isub mx mb dL_law_316 ?_
                  refine z_laldN mx mb hK 94 3 rfl rfl (by decide) (by omega) dL_law_317 ?_
                  refine z_lcmp0 mx mb (by rw [show (x3 - x5).toNat = m1 - i2 - 1 from by omega]; exact (Wg_top h7g (by omega)).2.symm) dL_law_318 ?_
                  refine z_if_ne (tgt := 336) mx mb (by decide) dL_law_319 (by decide) (fun c319 => absurd c319 (by decide)) (fun _ => ?_)
                  refine z_iload_n mx mb dL_law_322 rfl 4 rfl ?_
                  refine z_iconst mx mb dL_law_323 ?_
                  refine z_icmp_le (tgt := 338) mx mb (by omega) (by omega) dL_law_324 (by decide) (fun c324 => ?_) (fun c324 => ?_)
                  · skip
                    refine z_iinc mx mb dL_law_338 5 rfl (by decide) [(4, .int (iZ (x5 + 1))), (5, .int (iZ (c7.2.2.1 - 1))), (0, .ref b), (1, .ref (o18 0)), (2, .ref ob), (3, .int (iZ x3))] rfl ?_
                    refine z_goto (tgt := 282) mx mb dL_law_341 (by decide) ?_
                    refine z_lv [2, 3, 4, 5, 0] rfl ?_
                    exact ih282 (i2 + 1) _ (undn c7) a309 S309 (k3 + 1 + 500) (n3 + 6 + 3000) (by omega) (by omega) (by omega) (by omega) (by show c7.2.2.1 - 1 = _; omega) (by rw [show m1 - i2 = (m1 - (i2 + 1)) + 1 from by omega] at h7g; exact Wg_undo h7g) (by omega) (by omega) (by exact hT309)
                  · skip
                    refine z_iload mx mb dL_law_327 0 rfl ?_
                    refine z_iconst mx mb dL_law_329 ?_
                    refine z_iload mx mb dL_law_330 5 rfl ?_
                    refine z_isub mx mb dL_law_332 ?_
                    refine z_icmp_eq (tgt := 338) mx mb (by omega) (by omega) dL_law_333 (by decide) (fun c333 => ?_) (fun c333 => absurd c333 (by omega))
                    refine z_iinc mx mb dL_law_338 5 rfl (by decide) [(4, .int (iZ (x5 + 1))), (5, .int (iZ (c7.2.2.1 - 1))), (0, .ref b), (1, .ref (o18 0)), (2, .ref ob), (3, .int (iZ x3))] rfl ?_
                    refine z_goto (tgt := 282) mx mb dL_law_341 (by decide) ?_
                    refine z_lv [2, 3, 4, 5, 0] rfl ?_
                    exact ih282 (i2 + 1) _ (undn c7) a309 S309 (k3 + 1 + 500) (n3 + 6 + 3000) (by omega) (by omega) (by omega) (by omega) (by show c7.2.2.1 - 1 = _; omega) (by rw [show m1 - i2 = (m1 - (i2 + 1)) + 1 from by omega] at h7g; exact Wg_undo h7g) (by omega) (by omega) (by exact hT309)
          refine z_lv [1, 2, 3, 4, 0] rfl ?_
          exact lp282 _ 0 1 c9 a5 S5 k4 n4 (Nat.lt_succ_self _) (by omega) (by omega) (by rfl) (by rw [h9c]; omega) (by exact h9g) (by omega) (by omega) (by exact hT5)
        refine z_aload_n mx mb dL_law_259 rfl 1 rfl ?_
        refine z_iconst mx mb dL_law_260 ?_
        refine z_iload_n mx mb dL_law_261 rfl 3 rfl ?_
        refine z_iconst mx mb dL_law_262 ?_
        refine z_icmp_ge (tgt := 270) mx mb (by omega) (by omega) dL_law_263 (by decide) (fun c263 => ?_) (fun c263 => ?_)
        · skip
          refine z_iconst mx mb dL_law_270 ?_
          refine z_callSE (wa := []) (wc := (wC y o18 a253 S253 tb18 c9)) (wb := (([(ob, .inl (y 3, 32, .inr (.inl g9)))] : va_W))) (As := [.ref (o18 0), .int (iZ 0), .int (iZ 4)]) (rest := []) ⟨mx, mb, mml, mo, mts⟩ hK hA hE (fun sz => c_L_isDigest l hl0 D sz y o18 a253 S253 tb18 c9 0 4 h9l.symm (by rw [h9c]; unfold c4; rw [if_neg (by omega)]) hT253) (cwS 3 mts gL_law_L_isDigest rfl rfl rfl (by decide +kernel) ⟨Nat.le_of_ble_eq_true rfl, Nat.le_of_ble_eq_true rfl⟩) rfl rfl rfl (Nat.le_of_ble_eq_true rfl) ⟨by show _ ≤ 600172; omega, by show _ ≤ 7300668; omega⟩ dL_law_271 (fun r271 u271 hu271 => ?_)
          rw [List.nil_append]
          obtain ⟨a271, S271⟩ := u271
          obtain ⟨hr, hT271⟩ := hu271
          replace hT271 : Tie c9 S271 := hT271
          obtain rfl : r271 = iZ 1 := hr
          show Gz pp l ee room_1 ss mm args below meth cd 8 (k1 + 100 + 500) (n1 + 600 + 3000) Q (Zw D vwCl A9 ss ((wC y o18 a271 S271 tb18 c9) ++ ([(ob, .inl (y 3, 32, .inr (.inl g9)))] : va_W))) 274 [(0, .ref b), (1, .ref (o18 0)), (2, .ref ob), (3, .int (iZ x3)), (4, .int (iZ x4))] [.int (iZ 1)]
          refine z_if_ne (tgt := 279) mx mb (by decide) dL_law_274 (by decide) (fun _ => ?_) (fun c274 => absurd c274 (by decide))
          exact jn279 a271 S271 (k1 + 100 + 500) (n1 + 600 + 3000) (by exact hT271) (by omega) (by omega)
        · skip
          refine z_iload_n mx mb dL_law_266 rfl 3 rfl ?_
          refine z_goto (tgt := 271) mx mb dL_law_267 (by decide) ?_
          refine z_callSE (wa := []) (wc := (wC y o18 a253 S253 tb18 c9)) (wb := (([(ob, .inl (y 3, 32, .inr (.inl g9)))] : va_W))) (As := [.ref (o18 0), .int (iZ 0), .int (iZ x3)]) (rest := []) ⟨mx, mb, mml, mo, mts⟩ hK hA hE (fun sz => c_L_isDigest l hl0 D sz y o18 a253 S253 tb18 c9 0 x3 h9l.symm (by rw [h9c, h9x]; unfold c4; rw [if_pos (by omega)]) hT253) (cwS 3 mts gL_law_L_isDigest rfl rfl rfl (by decide +kernel) ⟨Nat.le_of_ble_eq_true rfl, Nat.le_of_ble_eq_true rfl⟩) rfl rfl rfl (Nat.le_of_ble_eq_true rfl) ⟨by show _ ≤ 600172; omega, by show _ ≤ 7300668; omega⟩ dL_law_271 (fun r271 u271 hu271 => ?_)
          rw [List.nil_append]
          obtain ⟨a271, S271⟩ := u271
          obtain ⟨hr, hT271⟩ := hu271
          replace hT271 : Tie c9 S271 := hT271
          obtain rfl : r271 = iZ 1 := hr
          show Gz pp l ee room_1 ss mm args below meth cd 8 (k1 + 100 + 500) (n1 + 600 + 3000) Q (Zw D vwCl A9 ss ((wC y o18 a271 S271 tb18 c9) ++ ([(ob, .inl (y 3, 32, .inr (.inl g9)))] : va_W))) 274 [(0, .ref b), (1, .ref (o18 0)), (2, .ref ob), (3, .int (iZ x3)), (4, .int (iZ x4))] [.int (iZ 1)]
          refine z_if_ne (tgt := 279) mx mb (by decide) dL_law_274 (by decide) (fun _ => ?_) (fun c274 => absurd c274 (by decide))
          exact jn279 a271 S271 (k1 + 100 + 500) (n1 + 600 + 3000) (by exact hT271) (by omega) (by omega)
      · skip
        refine z_aload_n mx mb dL_law_39 rfl 0 rfl ?_
        refine z_iload mx mb dL_law_40 4 rfl ?_
        refine z_take (rest := []) ⟨mx, mb, mml, mo, mts⟩ hX hbl hbA (c_L_take l b L xs x4 (by omega) hL) (cwS 2 mts gL_law_L_take rfl rfl rfl (by decide +kernel) ⟨Nat.le_of_ble_eq_true rfl, Nat.le_of_ble_eq_true rfl⟩) rfl (Nat.le_of_ble_eq_true rfl) ⟨by show _ ≤ 600172; omega, by show _ ≤ 7300668; omega⟩ dL_law_42 (fun w42 hw42 => ?_)
        refine z_istore mx mb dL_law_45 (by decide) [(5, .int (iZ w42)), (0, .ref b), (1, .ref (o18 0)), (2, .ref ob), (3, .int (iZ x3)), (4, .int (iZ x4))] rfl ?_
        refine z_iload mx mb dL_law_47 0 rfl ?_
        refine z_bipush mx mb dL_law_49 (by decide +kernel) ?_
        refine z_part (rest := []) (x := w42) (j := 12) ⟨mx, mb, mml, mo, mts⟩ hK (c_L_part l D y w42 12 (by omega)) (cwS 2 mts gL_law_L_part rfl rfl rfl (by decide +kernel) ⟨Nat.le_of_ble_eq_true rfl, Nat.le_of_ble_eq_true rfl⟩) rfl (Nat.le_of_ble_eq_true rfl) ⟨by show _ ≤ 600172; omega, by show _ ≤ 7300668; omega⟩ dL_law_51 (fun w51 hw51 => ?_)
        refine z_istore mx mb dL_law_54 (by decide) [(6, .int (iZ w51)), (5, .int (iZ w42)), (0, .ref b), (1, .ref (o18 0)), (2, .ref ob), (3, .int (iZ x3)), (4, .int (iZ x4))] rfl ?_
        refine z_aload_n mx mb dL_law_56 rfl 4 rfl ?_
        refine z_iload_n mx mb dL_law_57 rfl 5 rfl ?_
        refine z_aload_n mx mb dL_law_58 rfl 3 rfl ?_
        refine z_ldc2 (z := 5) mx mb mo (mts _ (List.mem_of_getElem? (i := 4) rfl)) (by decide +kernel) dL_law_59 ?_
        refine z_callSEl (wa := []) (wc := (wC y o18 a9 S9 tb18 c9)) (wb := (([(ob, .inl (y 3, 32, .inr (.inl g9)))] : va_W))) (As := [.ref (o18 0), .long (lZ 5)]) (rest := [.int (iZ x3), .ref ob]) ⟨mx, mb, mml, mo, mts⟩ hK hA hE (fun sz => c_L_from l hl0 D sz y o18 a9 S9 tb18 c9 5 h9T) (cwS 2 mts gL_law_L_from rfl rfl rfl (by decide +kernel) ⟨Nat.le_of_ble_eq_true rfl, Nat.le_of_ble_eq_true rfl⟩) rfl rfl rfl (Nat.le_of_ble_eq_true rfl) ⟨by show _ ≤ 600172; omega, by show _ ≤ 7300668; omega⟩ dL_law_62 (fun r62 u62 hu62 => ?_)
        rw [List.nil_append]
        obtain ⟨a62, S62⟩ := u62
        obtain ⟨hr, hT62⟩ := hu62
        replace hT62 : Tie c9 S62 := hT62
        obtain rfl : r62 = lZ (fromH c9.1 5) := hr
        show Gz pp l ee room_1 ss mm args below meth cd 8 (k1 + 500) (n1 + 3000) Q (Zw D vwCl A9 ss ((wC y o18 a62 S62 tb18 c9) ++ ([(ob, .inl (y 3, 32, .inr (.inl g9)))] : va_W))) 65 [(6, .int (iZ w51)), (5, .int (iZ w42)), (0, .ref b), (1, .ref (o18 0)), (2, .ref ob), (3, .int (iZ x3)), (4, .int (iZ x4))] [.long (lZ (fromH c9.1 5)), .int (iZ x3), .ref ob]
        refine z_lastN mx mb hK 94 3 rfl rfl (by decide) (by omega) dL_law_65 ((wC y o18 a62 S62 tb18 c9) ++ ([(ob, .inl (y 3, 32, .inr (.inl (vp_updL g9 (x3).toNat (lZ (fromH c9.1 5))))))] : va_W)) rfl ?_
        rw [show (x3).toNat = m1 from by omega]
        have jn210 : ∀ (d9 : Int) (c8 : CSt) (a8 : Nat → Nat → Nat) (S8 : Nat → Nat → Int → Int) (k2 n2 : Nat), (Alt c9 c8 d9) → (Tie c8 S8) → (k2 ≤ 8510 + 1100 * i1) → (n2 ≤ 83100 + 7000 * i1) → Gz pp l ee room_1 ss mm args below meth cd 8 k2 n2 Q (Zw D vwCl A9 ss ((wC y o18 a8 S8 tb18 c8) ++ ([(ob, .inl (y 3, 32, .inr (.inl (vp_updL g9 m1 (lZ (fromH c9.1 5))))))] : va_W))) 210 [(6, .int (iZ w51)), (5, .int (iZ w42)), (0, .ref b), (1, .ref (o18 0)), (2, .ref ob), (3, .int (iZ x3)), (4, .int (iZ x4))] [.int (iZ d9)] := by
          intro d9 c8 a8 S8 k2 n2 hA8 hT8 hk2 hn2
          have d8 := hA8.1
          refine z_istore mx mb dL_law_210 (by decide) [(7, .int (iZ d9)), (6, .int (iZ w51)), (5, .int (iZ w42)), (0, .ref b), (1, .ref (o18 0)), (2, .ref ob), (3, .int (iZ x3)), (4, .int (iZ x4))] rfl ?_
          refine z_iload_n mx mb dL_law_212 rfl 6 rfl ?_
          refine z_iload mx mb dL_law_213 0 rfl ?_
          refine z_if_lt (tgt := 222) mx mb (by omega) dL_law_215 (by decide) (fun c215 => ?_) (fun c215 => ?_)
          · skip
            have e8 : c8 = c9 := hA8.2.elim (fun z => absurd z.1 (by omega)) (fun z => z.2)
            refine z_iconst mx mb dL_law_222 ?_
            refine z_iadd mx mb dL_law_223 ?_
            refine z_istore_n mx mb dL_law_224 rfl (by decide) [(3, .int (iZ (x3 + 0))), (7, .int (iZ d9)), (6, .int (iZ w51)), (5, .int (iZ w42)), (0, .ref b), (1, .ref (o18 0)), (2, .ref ob), (4, .int (iZ x4))] rfl ?_
            refine z_iload mx mb dL_law_225 1 rfl ?_
            refine z_if_ge (tgt := 246) mx mb (by omega) dL_law_227 (by decide) (fun c227 => absurd c227 (by omega)) (fun c227 => ?_)
            refine z_aload_n mx mb dL_law_230 rfl 5 rfl ?_
            refine z_ldc2 (z := 5) mx mb mo (mts _ (List.mem_of_getElem? (i := 4) rfl)) (by decide +kernel) dL_law_231 ?_
            refine z_callSEl (wa := []) (wc := (wC y o18 a8 S8 tb18 c8)) (wb := (([(ob, .inl (y 3, 32, .inr (.inl (vp_updL g9 m1 (lZ (fromH c9.1 5))))))] : va_W))) (As := [.ref (o18 0), .long (lZ 5)]) (rest := []) ⟨mx, mb, mml, mo, mts⟩ hK hA hE (fun sz => c_L_from l hl0 D sz y o18 a8 S8 tb18 c8 5 hT8) (cwS 2 mts gL_law_L_from rfl rfl rfl (by decide +kernel) ⟨Nat.le_of_ble_eq_true rfl, Nat.le_of_ble_eq_true rfl⟩) rfl rfl rfl (Nat.le_of_ble_eq_true rfl) ⟨by show _ ≤ 600172; omega, by show _ ≤ 7300668; omega⟩ dL_law_234 (fun r234 u234 hu234 => ?_)
            rw [List.nil_append]
            obtain ⟨a234, S234⟩ := u234
            obtain ⟨hr, hT234⟩ := hu234
            replace hT234 : Tie c8 S234 := hT234
            obtain rfl : r234 = lZ (fromH c8.1 5) := hr
            show Gz pp l ee room_1 ss mm args below meth cd 8 (k2 + 500) (n2 + 3000) Q (Zw D vwCl A9 ss ((wC y o18 a234 S234 tb18 c8) ++ ([(ob, .inl (y 3, 32, .inr (.inl (vp_updL g9 m1 (lZ (fromH c9.1 5))))))] : va_W))) 237 [(3, .int (iZ (x3 + 0))), (7, .int (iZ d9)), (6, .int (iZ w51)), (5, .int (iZ w42)), (0, .ref b), (1, .ref (o18 0)), (2, .ref ob), (4, .int (iZ x4))] [.long (lZ (fromH c8.1 5))]
            refine z_aload_n mx mb dL_law_237 rfl 6 rfl ?_
            refine z_iload_n mx mb dL_law_238 rfl 0 rfl ?_
            refine z_laldN mx mb hK 94 3 rfl rfl (by decide) (by omega) dL_law_239 ?_
            refine z_lcmp0 mx mb (by rw [e8, show (x3 + 0).toNat = m1 from by omega]; unfold vp_updL; rw [if_pos rfl]) dL_law_240 ?_
            refine z_if_eq (tgt := 246) mx mb (by decide) dL_law_241 (by decide) (fun _ => ?_) (fun c241 => absurd c241 (by decide))
            refine z_iinc mx mb dL_law_246 7 rfl (by decide) [(4, .int (iZ (x4 + 1))), (3, .int (iZ (x3 + 0))), (7, .int (iZ d9)), (6, .int (iZ w51)), (5, .int (iZ w42)), (0, .ref b), (1, .ref (o18 0)), (2, .ref ob)] rfl ?_
            refine z_goto (tgt := 32) mx mb dL_law_249 (by decide) ?_
            refine z_lv [5, 6, 7, 1, 0] rfl ?_
            exact ih32 (i1 + 1) _ m1 _ c8 (vp_updL g9 m1 (lZ (fromH c9.1 5))) a234 S234 (k2 + 500) (n2 + 3000) (by omega) (by omega) (by omega) (by omega) (by omega) (by rw [e8]; exact h9c) (by rw [e8]; exact h9l) (by rw [e8]; exact Wg_keep _ h9g) (by omega) (by omega) (by exact hT234)
          · skip
            obtain ⟨gq, e8⟩ : ∃ gq, c8 = savd c9 gq := hA8.2.elim (fun z => z.2) (fun z => absurd z.1 (by omega))
            refine z_iconst mx mb dL_law_218 ?_
            refine z_goto (tgt := 223) mx mb dL_law_219 (by decide) ?_
            refine z_iadd mx mb dL_law_223 ?_
            refine z_istore_n mx mb dL_law_224 rfl (by decide) [(3, .int (iZ (x3 + 1))), (7, .int (iZ d9)), (6, .int (iZ w51)), (5, .int (iZ w42)), (0, .ref b), (1, .ref (o18 0)), (2, .ref ob), (4, .int (iZ x4))] rfl ?_
            refine z_iload mx mb dL_law_225 1 rfl ?_
            refine z_if_ge (tgt := 246) mx mb (by omega) dL_law_227 (by decide) (fun c227 => ?_) (fun c227 => absurd c227 (by omega))
            refine z_iinc mx mb dL_law_246 7 rfl (by decide) [(4, .int (iZ (x4 + 1))), (3, .int (iZ (x3 + 1))), (7, .int (iZ d9)), (6, .int (iZ w51)), (5, .int (iZ w42)), (0, .ref b), (1, .ref (o18 0)), (2, .ref ob)] rfl ?_
            refine z_goto (tgt := 32) mx mb dL_law_249 (by decide) ?_
            refine z_lv [5, 6, 7, 1, 0] rfl ?_
            exact ih32 (i1 + 1) _ (m1 + 1) _ c8 (vp_updL g9 m1 (lZ (fromH c9.1 5))) a8 S8 k2 n2 (by omega) (by omega) (by omega) (by omega) (by omega) (by rw [e8]; exact c4_save gq h9c) (by rw [e8]; exact h9l) (by rw [e8]; exact Wg_save gq h9g hsc) (by omega) (by omega) (by exact hT8)
        refine z_iload mx mb dL_law_66 0 rfl ?_
        refine z_iconst mx mb dL_law_68 ?_
        refine z_icmp_ge (tgt := 91) mx mb (by omega) (by omega) dL_law_69 (by decide) (fun c69 => ?_) (fun c69 => ?_)
        · skip
          refine z_iload mx mb dL_law_91 0 rfl ?_
          refine z_bipush mx mb dL_law_93 (by decide +kernel) ?_
          refine z_icmp_ge (tgt := 116) mx mb (by omega) (by omega) dL_law_95 (by decide) (fun c95 => ?_) (fun c95 => ?_)
          · skip
            refine z_iload mx mb dL_law_116 0 rfl ?_
            refine z_bipush mx mb dL_law_118 (by decide +kernel) ?_
            refine z_icmp_ne (tgt := 130) mx mb (by omega) (by omega) dL_law_120 (by decide) (fun c120 => ?_) (fun c120 => ?_)
            · skip
              refine z_iload mx mb dL_law_130 0 rfl ?_
              refine z_bipush mx mb dL_law_132 (by decide +kernel) ?_
              refine z_icmp_ne (tgt := 152) mx mb (by omega) (by omega) dL_law_134 (by decide) (fun c134 => ?_) (fun c134 => ?_)
              · skip
                refine z_iload mx mb dL_law_152 0 rfl ?_
                refine z_bipush mx mb dL_law_154 (by decide +kernel) ?_
                refine z_icmp_ne (tgt := 188) mx mb (by omega) (by omega) dL_law_156 (by decide) (fun c156 => ?_) (fun c156 => ?_)
                · skip
                  refine z_aload_n mx mb dL_law_188 rfl 3 rfl ?_
                  refine z_iload mx mb dL_law_189 1 rfl ?_
                  refine z_iconst mx mb dL_law_191 ?_
                  refine z_ishrR mx mb dL_law_192 (fun w192 hw192 => ?_)
                  refine z_iconst mx mb dL_law_193 ?_
                  refine z_part (rest := [.ref (o18 0)]) (x := w192) (j := 4) ⟨mx, mb, mml, mo, mts⟩ hK (c_L_part l D y w192 4 (by omega)) (cwS 2 mts gL_law_L_part rfl rfl rfl (by decide +kernel) ⟨Nat.le_of_ble_eq_true rfl, Nat.le_of_ble_eq_true rfl⟩) rfl (Nat.le_of_ble_eq_true rfl) ⟨by show _ ≤ 600172; omega, by show _ ≤ 7300668; omega⟩ dL_law_194 (fun w194 hw194 => ?_)
                  refine z_iload mx mb dL_law_197 1 rfl ?_
                  refine z_bipush mx mb dL_law_199 (by decide +kernel) ?_
                  refine z_ishrR mx mb dL_law_201 (fun w201 hw201 => ?_)
                  refine z_bipush mx mb dL_law_202 (by decide +kernel) ?_
                  refine z_part (rest := [.int (iZ w194), .ref (o18 0)]) (x := w201) (j := 41) ⟨mx, mb, mml, mo, mts⟩ hK (c_L_part l D y w201 41 (by omega)) (cwS 2 mts gL_law_L_part rfl rfl rfl (by decide +kernel) ⟨Nat.le_of_ble_eq_true rfl, Nat.le_of_ble_eq_true rfl⟩) rfl (Nat.le_of_ble_eq_true rfl) ⟨by show _ ≤ 600172; omega, by show _ ≤ 7300668; omega⟩ dL_law_204 (fun w204 hw204 => ?_)
                  refine z_callSI (wa := []) (wc := (wC y o18 a62 S62 tb18 c9)) (wb := (([(ob, .inl (y 3, 32, .inr (.inl (vp_updL g9 m1 (lZ (fromH c9.1 5))))))] : va_W))) (As := [.ref (o18 0), .int (iZ w194), .int (iZ w204)]) (rest := []) ⟨mx, mb, mml, mo, mts⟩ hK hA hE (fun sz => c_L_setting l hl0 D sz y o18 a62 S62 tb18 c9 w194 w204 (by omega) (by omega) hT62) (vx_cwSW 3 mts gL_law_L_setting rfl rfl rfl (by decide +kernel) ⟨Nat.le_of_ble_eq_true rfl, Nat.le_of_ble_eq_true rfl⟩) rfl rfl rfl (Nat.le_of_ble_eq_true rfl) ⟨by show _ ≤ 600172; omega, by show _ ≤ 7300668; omega⟩ dL_law_207 (fun r207 u207 hu207 => ?_)
                  rw [List.nil_append]
                  obtain ⟨a207, S207⟩ := u207
                  obtain ⟨hr, hT207⟩ := hu207
                  replace hT207 : Tie (setS c9 w194 w204) S207 := hT207
                  obtain rfl : r207 = iZ (setV c9 w194 w204) := hr
                  show Gz pp l ee room_1 ss mm args below meth cd 8 (k1 + 500 + 1) (n1 + 3000 + 6) Q (Zw D vwCl A9 ss ((wC y o18 a207 S207 tb18 (setS c9 w194 w204)) ++ ([(ob, .inl (y 3, 32, .inr (.inl (vp_updL g9 m1 (lZ (fromH c9.1 5))))))] : va_W))) 210 [(6, .int (iZ w51)), (5, .int (iZ w42)), (0, .ref b), (1, .ref (o18 0)), (2, .ref ob), (3, .int (iZ x3)), (4, .int (iZ x4))] [.int (iZ (setV c9 w194 w204))]
                  exact jn210 (setV c9 w194 w204) (setS c9 w194 w204) a207 S207 (k1 + 500 + 1) (n1 + 3000 + 6) (by exact set_alt h9T.1.2) (by exact hT207) (by omega) (by omega)
                · skip
                  refine z_aload_n mx mb dL_law_159 rfl 3 rfl ?_
                  refine z_iload mx mb dL_law_160 1 rfl ?_
                  refine z_iconst mx mb dL_law_162 ?_
                  refine z_ishrR mx mb dL_law_163 (fun w163 hw163 => ?_)
                  refine z_aload_n mx mb dL_law_164 rfl 3 rfl ?_
                  refine z_iconst mx mb dL_law_165 ?_
                  refine z_callSI (wa := []) (wc := (wC y o18 a62 S62 tb18 c9)) (wb := (([(ob, .inl (y 3, 32, .inr (.inl (vp_updL g9 m1 (lZ (fromH c9.1 5))))))] : va_W))) (As := [.ref (o18 0), .int (iZ 0)]) (rest := [.int (iZ w163), .ref (o18 0)]) ⟨mx, mb, mml, mo, mts⟩ hK hA hE (fun sz => c_L_all l hl0 D sz y o18 a62 S62 tb18 c9 0 (by decide) hT62) (vx_cwSW 2 mts gL_law_L_all rfl rfl rfl (by decide +kernel) ⟨Nat.le_of_ble_eq_true rfl, Nat.le_of_ble_eq_true rfl⟩) rfl rfl rfl (Nat.le_of_ble_eq_true rfl) ⟨by show _ ≤ 600172; omega, by show _ ≤ 7300668; omega⟩ dL_law_166 (fun r166 u166 hu166 => ?_)
                  rw [List.nil_append]
                  obtain ⟨a166, S166⟩ := u166
                  obtain ⟨hr, hT166⟩ := hu166
                  replace hT166 : Tie c9 S166 := hT166
                  obtain rfl : r166 = iZ (c9.1 0) := hr.trans (congrArg iZ (all_lo (st := c9) (w := 0) (by omega)))
                  show Gz pp l ee room_1 ss mm args below meth cd 8 (k1 + 500 + 1) (n1 + 3000 + 6) Q (Zw D vwCl A9 ss ((wC y o18 a166 S166 tb18 c9) ++ ([(ob, .inl (y 3, 32, .inr (.inl (vp_updL g9 m1 (lZ (fromH c9.1 5))))))] : va_W))) 169 [(6, .int (iZ w51)), (5, .int (iZ w42)), (0, .ref b), (1, .ref (o18 0)), (2, .ref ob), (3, .int (iZ x3)), (4, .int (iZ x4))] [.int (iZ (c9.1 0)), .int (iZ w163), .ref (o18 0)]
                  refine z_part (rest := [.ref (o18 0)]) (x := w163) (j := (c9.1 0)) ⟨mx, mb, mml, mo, mts⟩ hK (c_L_part l D y w163 (c9.1 0) (by omega)) (cwS 2 mts gL_law_L_part rfl rfl rfl (by decide +kernel) ⟨Nat.le_of_ble_eq_true rfl, Nat.le_of_ble_eq_true rfl⟩) rfl (Nat.le_of_ble_eq_true rfl) ⟨by show _ ≤ 600172; omega, by show _ ≤ 7300668; omega⟩ dL_law_169 (fun w169 hw169 => ?_)
                  refine z_iload mx mb dL_law_172 1 rfl ?_
                  refine z_bipush mx mb dL_law_174 (by decide +kernel) ?_
                  refine z_ishrR mx mb dL_law_176 (fun w176 hw176 => ?_)
                  refine z_bipush mx mb dL_law_177 (by decide +kernel) ?_
                  refine z_part (rest := [.int (iZ w169), .ref (o18 0)]) (x := w176) (j := 10) ⟨mx, mb, mml, mo, mts⟩ hK (c_L_part l D y w176 10 (by omega)) (cwS 2 mts gL_law_L_part rfl rfl rfl (by decide +kernel) ⟨Nat.le_of_ble_eq_true rfl, Nat.le_of_ble_eq_true rfl⟩) rfl (Nat.le_of_ble_eq_true rfl) ⟨by show _ ≤ 600172; omega, by show _ ≤ 7300668; omega⟩ dL_law_179 (fun w179 hw179 => ?_)
                  refine z_callSI (wa := []) (wc := (wC y o18 a166 S166 tb18 c9)) (wb := (([(ob, .inl (y 3, 32, .inr (.inl (vp_updL g9 m1 (lZ (fromH c9.1 5))))))] : va_W))) (As := [.ref (o18 0), .int (iZ w169), .int (iZ w179)]) (rest := []) ⟨mx, mb, mml, mo, mts⟩ hK hA hE (fun sz => c_L_heighten l hl0 D sz y o18 a166 S166 tb18 c9 w169 w179 (by omega) (by omega) hT166) (vx_cwSW 3 mts gL_law_L_heighten rfl rfl rfl (by decide +kernel) ⟨Nat.le_of_ble_eq_true rfl, Nat.le_of_ble_eq_true rfl⟩) rfl rfl rfl (Nat.le_of_ble_eq_true rfl) ⟨by show _ ≤ 600172; omega, by show _ ≤ 7300668; omega⟩ dL_law_182 (fun r182 u182 hu182 => ?_)
                  rw [List.nil_append]
                  obtain ⟨a182, S182⟩ := u182
                  obtain ⟨hr, hT182⟩ := hu182
                  replace hT182 : Tie (hgtS c9 w169 w179) S182 := hT182
                  obtain rfl : r182 = iZ (hgtV c9 w169 w179) := hr
                  show Gz pp l ee room_1 ss mm args below meth cd 8 (k1 + 500 + 1 + 1) (n1 + 3000 + 6 + 6) Q (Zw D vwCl A9 ss ((wC y o18 a182 S182 tb18 (hgtS c9 w169 w179)) ++ ([(ob, .inl (y 3, 32, .inr (.inl (vp_updL g9 m1 (lZ (fromH c9.1 5))))))] : va_W))) 185 [(6, .int (iZ w51)), (5, .int (iZ w42)), (0, .ref b), (1, .ref (o18 0)), (2, .ref ob), (3, .int (iZ x3)), (4, .int (iZ x4))] [.int (iZ (hgtV c9 w169 w179))]
                  refine z_goto (tgt := 210) mx mb dL_law_185 (by decide) ?_
                  exact jn210 (hgtV c9 w169 w179) (hgtS c9 w169 w179) a182 S182 (k1 + 500 + 1 + 1) (n1 + 3000 + 6 + 6) (by exact hgt_alt h9T.1.2) (by exact hT182) (by omega) (by omega)
              · skip
                refine z_aload_n mx mb dL_law_137 rfl 3 rfl ?_
                refine z_iload mx mb dL_law_138 1 rfl ?_
                refine z_iconst mx mb dL_law_140 ?_
                refine z_ishrR mx mb dL_law_141 (fun w141 hw141 => ?_)
                refine z_iconst mx mb dL_law_142 ?_
                refine z_part (rest := [.ref (o18 0)]) (x := w141) (j := 4) ⟨mx, mb, mml, mo, mts⟩ hK (c_L_part l D y w141 4 (by omega)) (cwS 2 mts gL_law_L_part rfl rfl rfl (by decide +kernel) ⟨Nat.le_of_ble_eq_true rfl, Nat.le_of_ble_eq_true rfl⟩) rfl (Nat.le_of_ble_eq_true rfl) ⟨by show _ ≤ 600172; omega, by show _ ≤ 7300668; omega⟩ dL_law_143 (fun w143 hw143 => ?_)
                refine z_callSI (wa := []) (wc := (wC y o18 a62 S62 tb18 c9)) (wb := (([(ob, .inl (y 3, 32, .inr (.inl (vp_updL g9 m1 (lZ (fromH c9.1 5))))))] : va_W))) (As := [.ref (o18 0), .int (iZ w143)]) (rest := []) ⟨mx, mb, mml, mo, mts⟩ hK hA hE (fun sz => c_L_rescuing l hl0 D sz y o18 a62 S62 tb18 c9 w143 (by omega) hT62) (vx_cwSW 2 mts gL_law_L_rescuing rfl rfl rfl (by decide +kernel) ⟨Nat.le_of_ble_eq_true rfl, Nat.le_of_ble_eq_true rfl⟩) rfl rfl rfl (Nat.le_of_ble_eq_true rfl) ⟨by show _ ≤ 600172; omega, by show _ ≤ 7300668; omega⟩ dL_law_146 (fun r146 u146 hu146 => ?_)
                rw [List.nil_append]
                obtain ⟨a146, S146⟩ := u146
                obtain ⟨hr, hT146⟩ := hu146
                replace hT146 : Tie (resS c9 w143) S146 := hT146
                obtain rfl : r146 = iZ (resV c9 w143) := hr
                show Gz pp l ee room_1 ss mm args below meth cd 8 (k1 + 500 + 1) (n1 + 3000 + 6) Q (Zw D vwCl A9 ss ((wC y o18 a146 S146 tb18 (resS c9 w143)) ++ ([(ob, .inl (y 3, 32, .inr (.inl (vp_updL g9 m1 (lZ (fromH c9.1 5))))))] : va_W))) 149 [(6, .int (iZ w51)), (5, .int (iZ w42)), (0, .ref b), (1, .ref (o18 0)), (2, .ref ob), (3, .int (iZ x3)), (4, .int (iZ x4))] [.int (iZ (resV c9 w143))]
                refine z_goto (tgt := 210) mx mb dL_law_149 (by decide) ?_
                exact jn210 (resV c9 w143) (resS c9 w143) a146 S146 (k1 + 500 + 1) (n1 + 3000 + 6) (by exact res_alt h9T.1.2) (by exact hT146) (by omega) (by omega)
            · skip
              refine z_aload_n mx mb dL_law_123 rfl 3 rfl ?_
              refine z_callSI (wa := []) (wc := (wC y o18 a62 S62 tb18 c9)) (wb := (([(ob, .inl (y 3, 32, .inr (.inl (vp_updL g9 m1 (lZ (fromH c9.1 5))))))] : va_W))) (As := [.ref (o18 0)]) (rest := []) ⟨mx, mb, mml, mo, mts⟩ hK hA hE (fun sz => c_L_taking l hl0 D sz y o18 a62 S62 tb18 c9   hT62) (vx_cwSW 1 mts gL_law_L_taking rfl rfl rfl (by decide +kernel) ⟨Nat.le_of_ble_eq_true rfl, Nat.le_of_ble_eq_true rfl⟩) rfl rfl rfl (Nat.le_of_ble_eq_true rfl) ⟨by show _ ≤ 600172; omega, by show _ ≤ 7300668; omega⟩ dL_law_124 (fun r124 u124 hu124 => ?_)
              rw [List.nil_append]
              obtain ⟨a124, S124⟩ := u124
              obtain ⟨hr, hT124⟩ := hu124
              replace hT124 : Tie (takS c9) S124 := hT124
              obtain rfl : r124 = iZ (takV c9) := hr
              show Gz pp l ee room_1 ss mm args below meth cd 8 (k1 + 500 + 1) (n1 + 3000 + 6) Q (Zw D vwCl A9 ss ((wC y o18 a124 S124 tb18 (takS c9)) ++ ([(ob, .inl (y 3, 32, .inr (.inl (vp_updL g9 m1 (lZ (fromH c9.1 5))))))] : va_W))) 127 [(6, .int (iZ w51)), (5, .int (iZ w42)), (0, .ref b), (1, .ref (o18 0)), (2, .ref ob), (3, .int (iZ x3)), (4, .int (iZ x4))] [.int (iZ (takV c9))]
              refine z_goto (tgt := 210) mx mb dL_law_127 (by decide) ?_
              exact jn210 (takV c9) (takS c9) a124 S124 (k1 + 500 + 1) (n1 + 3000 + 6) (by exact tak_alt h9T.1.2) (by exact hT124) (by omega) (by omega)
          · skip
            refine z_aload_n mx mb dL_law_98 rfl 3 rfl ?_
            refine z_iconst mx mb dL_law_99 ?_
            refine z_iload mx mb dL_law_100 1 rfl ?_
            refine z_iconst mx mb dL_law_102 ?_
            refine z_ishrR mx mb dL_law_103 (fun w103 hw103 => ?_)
            refine z_bipush mx mb dL_law_104 (by decide +kernel) ?_
            refine z_part (rest := [.int (iZ 1), .ref (o18 0)]) (x := w103) (j := 90) ⟨mx, mb, mml, mo, mts⟩ hK (c_L_part l D y w103 90 (by omega)) (cwS 2 mts gL_law_L_part rfl rfl rfl (by decide +kernel) ⟨Nat.le_of_ble_eq_true rfl, Nat.le_of_ble_eq_true rfl⟩) rfl (Nat.le_of_ble_eq_true rfl) ⟨by show _ ≤ 600172; omega, by show _ ≤ 7300668; omega⟩ dL_law_106 (fun w106 hw106 => ?_)
            refine z_iadd mx mb dL_law_109 ?_
            refine z_callSI (wa := []) (wc := (wC y o18 a62 S62 tb18 c9)) (wb := (([(ob, .inl (y 3, 32, .inr (.inl (vp_updL g9 m1 (lZ (fromH c9.1 5))))))] : va_W))) (As := [.ref (o18 0), .int (iZ (1 + w106))]) (rest := []) ⟨mx, mb, mml, mo, mts⟩ hK hA hE (fun sz => c_L_passing l hl0 D sz y o18 a62 S62 tb18 c9 (1 + w106) (by omega) hT62) (vx_cwSW 2 mts gL_law_L_passing rfl rfl rfl (by decide +kernel) ⟨Nat.le_of_ble_eq_true rfl, Nat.le_of_ble_eq_true rfl⟩) rfl rfl rfl (Nat.le_of_ble_eq_true rfl) ⟨by show _ ≤ 600172; omega, by show _ ≤ 7300668; omega⟩ dL_law_110 (fun r110 u110 hu110 => ?_)
            rw [List.nil_append]
            obtain ⟨a110, S110⟩ := u110
            obtain ⟨hr, hT110⟩ := hu110
            replace hT110 : Tie (pasS c9 (1 + w106)) S110 := hT110
            obtain rfl : r110 = iZ (pasV c9 (1 + w106)) := hr
            show Gz pp l ee room_1 ss mm args below meth cd 8 (k1 + 500 + 1) (n1 + 3000 + 6) Q (Zw D vwCl A9 ss ((wC y o18 a110 S110 tb18 (pasS c9 (1 + w106))) ++ ([(ob, .inl (y 3, 32, .inr (.inl (vp_updL g9 m1 (lZ (fromH c9.1 5))))))] : va_W))) 113 [(6, .int (iZ w51)), (5, .int (iZ w42)), (0, .ref b), (1, .ref (o18 0)), (2, .ref ob), (3, .int (iZ x3)), (4, .int (iZ x4))] [.int (iZ (pasV c9 (1 + w106)))]
            refine z_goto (tgt := 210) mx mb dL_law_113 (by decide) ?_
            exact jn210 (pasV c9 (1 + w106)) (pasS c9 (1 + w106)) a110 S110 (k1 + 500 + 1) (n1 + 3000 + 6) (by exact pas_alt h9T.1.2) (by exact hT110) (by omega) (by omega)
        · skip
          refine z_aload_n mx mb dL_law_72 rfl 3 rfl ?_
          refine z_iload mx mb dL_law_73 1 rfl ?_
          refine z_iconst mx mb dL_law_75 ?_
          refine z_ishrR mx mb dL_law_76 (fun w76 hw76 => ?_)
          refine z_aload_n mx mb dL_law_77 rfl 3 rfl ?_
          refine z_iconst mx mb dL_law_78 ?_
          refine z_callSI (wa := []) (wc := (wC y o18 a62 S62 tb18 c9)) (wb := (([(ob, .inl (y 3, 32, .inr (.inl (vp_updL g9 m1 (lZ (fromH c9.1 5))))))] : va_W))) (As := [.ref (o18 0), .int (iZ 1)]) (rest := [.int (iZ w76), .ref (o18 0)]) ⟨mx, mb, mml, mo, mts⟩ hK hA hE (fun sz => c_L_all l hl0 D sz y o18 a62 S62 tb18 c9 1 (by decide) hT62) (vx_cwSW 2 mts gL_law_L_all rfl rfl rfl (by decide +kernel) ⟨Nat.le_of_ble_eq_true rfl, Nat.le_of_ble_eq_true rfl⟩) rfl rfl rfl (Nat.le_of_ble_eq_true rfl) ⟨by show _ ≤ 600172; omega, by show _ ≤ 7300668; omega⟩ dL_law_79 (fun r79 u79 hu79 => ?_)
          rw [List.nil_append]
          obtain ⟨a79, S79⟩ := u79
          obtain ⟨hr, hT79⟩ := hu79
          replace hT79 : Tie c9 S79 := hT79
          obtain rfl : r79 = iZ (c9.1 1) := hr.trans (congrArg iZ (all_lo (st := c9) (w := 1) (by omega)))
          show Gz pp l ee room_1 ss mm args below meth cd 8 (k1 + 500 + 1) (n1 + 3000 + 6) Q (Zw D vwCl A9 ss ((wC y o18 a79 S79 tb18 c9) ++ ([(ob, .inl (y 3, 32, .inr (.inl (vp_updL g9 m1 (lZ (fromH c9.1 5))))))] : va_W))) 82 [(6, .int (iZ w51)), (5, .int (iZ w42)), (0, .ref b), (1, .ref (o18 0)), (2, .ref ob), (3, .int (iZ x3)), (4, .int (iZ x4))] [.int (iZ (c9.1 1)), .int (iZ w76), .ref (o18 0)]
          refine z_part (rest := [.ref (o18 0)]) (x := w76) (j := (c9.1 1)) ⟨mx, mb, mml, mo, mts⟩ hK (c_L_part l D y w76 (c9.1 1) (by omega)) (cwS 2 mts gL_law_L_part rfl rfl rfl (by decide +kernel) ⟨Nat.le_of_ble_eq_true rfl, Nat.le_of_ble_eq_true rfl⟩) rfl (Nat.le_of_ble_eq_true rfl) ⟨by show _ ≤ 600172; omega, by show _ ≤ 7300668; omega⟩ dL_law_82 (fun w82 hw82 => ?_)
          refine z_callSI (wa := []) (wc := (wC y o18 a79 S79 tb18 c9)) (wb := (([(ob, .inl (y 3, 32, .inr (.inl (vp_updL g9 m1 (lZ (fromH c9.1 5))))))] : va_W))) (As := [.ref (o18 0), .int (iZ w82)]) (rest := []) ⟨mx, mb, mml, mo, mts⟩ hK hA hE (fun sz => c_L_adding l hl0 D sz y o18 a79 S79 tb18 c9 w82 (by omega) hT79) (vx_cwSW 2 mts gL_law_L_adding rfl rfl rfl (by decide +kernel) ⟨Nat.le_of_ble_eq_true rfl, Nat.le_of_ble_eq_true rfl⟩) rfl rfl rfl (Nat.le_of_ble_eq_true rfl) ⟨by show _ ≤ 600172; omega, by show _ ≤ 7300668; omega⟩ dL_law_85 (fun r85 u85 hu85 => ?_)
          rw [List.nil_append]
          obtain ⟨a85, S85⟩ := u85
          obtain ⟨hr, hT85⟩ := hu85
          replace hT85 : Tie (addS c9 w82) S85 := hT85
          obtain rfl : r85 = iZ (addV c9 w82) := hr
          show Gz pp l ee room_1 ss mm args below meth cd 8 (k1 + 500 + 1 + 1) (n1 + 3000 + 6 + 6) Q (Zw D vwCl A9 ss ((wC y o18 a85 S85 tb18 (addS c9 w82)) ++ ([(ob, .inl (y 3, 32, .inr (.inl (vp_updL g9 m1 (lZ (fromH c9.1 5))))))] : va_W))) 88 [(6, .int (iZ w51)), (5, .int (iZ w42)), (0, .ref b), (1, .ref (o18 0)), (2, .ref ob), (3, .int (iZ x3)), (4, .int (iZ x4))] [.int (iZ (addV c9 w82))]
          refine z_goto (tgt := 210) mx mb dL_law_88 (by decide) ?_
          exact jn210 (addV c9 w82) (addS c9 w82) a85 S85 (k1 + 500 + 1 + 1) (n1 + 3000 + 6 + 6) (by exact add_alt h9T.1.2) (by exact hT85) (by omega) (by omega)
  refine z_lv [4, 3, 2, 1, 0] rfl ?_
  exact lp32 _ 0 0 0 0 new0 (fun _ => 0) a18 S18 6697 63551 (Nat.lt_succ_self _) (by omega) (by rfl) (by omega) (by rfl) (by rfl) (by rfl) (by intro j hj; exact absurd (show (j : Int) < 0 from hj) (by omega)) (by decide) (by decide) (by exact hT18)
