set_option maxRecDepth 100000 in
set_option maxHeartbeats 8000000 in
theorem c_L_refusesPlaces (l : Launch) (hl0 : l.stackTraces = false) (D : va_G) (sz : Nat) (y : Nat → ClassId) (o : Nat → Nat) (a : Nat → Nat → Nat) (S : Nat → Nat → Int → Int) (tb : Nat → Nat) (st : CSt) (hT : Tie st S) : Met l yL_refusesPlaces wsL_refusesPlaces ({ frames := 9, cells := 60, slots := 360, locals := 159 } : Room) (zPe D vwCl (zT y) (wC y o a S tb st) sz [.ref (o 0)]) (va_Qi (fun (r : Int32) (u : (Nat → Nat → Nat) × (Nat → Nat → Int → Int)) => r = iZ 1 ∧ Tie st u.2) (zB D vwCl (zT y) (wC y o a S tb st) sz (fun u : (Nat → Nat → Nat) × (Nat → Nat → Int → Int) => wC y o u.1 u.2 tb st)) (va_A (wC y o a S tb st) sz)) 60 360 (va_A (wC y o a S tb st) sz) := by
  refine z_headE (cc := cL_refusesPlaces) (maxL := 5) (ret := (some .boolean)) [(0, .ref (o 0))] rfl (Nat.le_of_ble_eq_true rfl) (by decide +kernel) rfl ?_
  intro pp ee ss mm below meth cd mx mb mr mml mo mts mlk hK hname hsz hA hE
  generalize ([.ref (o 0)] : List Value).toArray = args at mts ⊢
  obtain ⟨wst, hw0⟩ : ∃ wst, wst = wC y o a S tb st := ⟨_, rfl⟩
  replace hE : zE (va_A wst sz) ss ss.heap := by rw [hw0]; exact hE
  replace hA : ∀ q, ss.heap.size ≤ q → va_A wst sz q := by rw [hw0]; exact hA
  obtain ⟨Q, hQ⟩ : ∃ Q, Q = MQ below (va_Qi (fun (r : Int32) (u : (Nat → Nat → Nat) × (Nat → Nat → Int → Int)) => r = iZ 1 ∧ Tie st u.2) (zB D vwCl (zT y) wst sz (fun u : (Nat → Nat → Nat) × (Nat → Nat → Int → Int) => wC y o u.1 u.2 tb st)) (va_A wst sz)) args ss 60 360 (va_A wst sz) := ⟨_, rfl⟩
  have hstart : Gz pp l ee ({ frames := 9, cells := 60, slots := 360, locals := 159 } : Room) ss mm args below meth cd 5 0 0 Q (Zw D vwCl (va_A wst sz) ss (wC y o a S tb st)) 0 [(0, .ref (o 0))] [] := by
    obtain ⟨⟨hR, hI, kp, lp⟩, hsc, hTS, hl, htx⟩ := id hT
    obtain ⟨hW, hN, hT9⟩ := (Inv_Jy hI).f
    have w0 := hW.1; have w1 := hW.2.1; have w2 := hW.2.2.1
    have n10 := hN.2.2.2.2.2.2.2
    refine z_iconst mx mb dL_refusesPlaces_0 ?_
    refine z_istore_n mx mb dL_refusesPlaces_1 rfl (by decide) [(1, .int (iZ 0)), (0, .ref (o 0))] rfl ?_
    refine z_iload_n mx mb dL_refusesPlaces_2 rfl 0 rfl ?_
    refine z_iconst mx mb dL_refusesPlaces_3 ?_
    refine z_icmp_ge (tgt := 313) mx mb (by decide) (by decide) dL_refusesPlaces_4 (by decide) (fun c4 => absurd c4 (by decide)) (fun _ => ?_)
    refine z_iload_n mx mb dL_refusesPlaces_7 rfl 0 rfl ?_
    refine z_if_ne (tgt := 19) mx mb (by decide) dL_refusesPlaces_8 (by decide) (fun c8 => absurd c8 (by decide)) (fun _ => ?_)
    refine z_aload_n mx mb dL_refusesPlaces_11 rfl 1 rfl ?_
    refine z_iconst mx mb dL_refusesPlaces_12 ?_
    refine z_callSI (wa := []) (wc := (wC y o a S tb st)) (wb := []) (As := [.ref (o 0), .int (iZ 0)]) (rest := []) ⟨mx, mb, mml, mo, mts⟩ hK hA hE (fun sz => c_L_all l hl0 D sz y o a S tb st 0 (by decide) hT) (vx_cwSW 2 mts gL_refusesPlaces_L_all rfl rfl rfl (by decide +kernel) ⟨Nat.le_of_ble_eq_true rfl, Nat.le_of_ble_eq_true rfl⟩) (List.append_nil _).symm rfl rfl (Nat.le_of_ble_eq_true rfl) ⟨Nat.le_of_ble_eq_true rfl, Nat.le_of_ble_eq_true rfl⟩ dL_refusesPlaces_13 (fun r13 u13 hu13 => ?_)
    rw [List.nil_append, List.append_nil]
    obtain ⟨a13, S13⟩ := u13
    obtain ⟨hr, hT13⟩ := hu13
    replace hT13 : Tie st S13 := hT13
    obtain rfl : r13 = iZ (st.1 0) := hr.trans (congrArg iZ (show allV st 0 = st.1 0 from by exact all_lo (by omega)))
    show Gz pp l ee ({ frames := 9, cells := 60, slots := 360, locals := 159 } : Room) ss mm args below meth cd 5 1 6 Q (Zw D vwCl (va_A wst sz) ss (wC y o a13 S13 tb st)) 16 [(1, .int (iZ 0)), (0, .ref (o 0))] [.int (iZ (st.1 0))]
    refine z_goto (tgt := 20) mx mb dL_refusesPlaces_16 (by decide) ?_
    refine z_istore_n mx mb dL_refusesPlaces_20 rfl (by decide) [(2, .int (iZ (st.1 0))), (1, .int (iZ 0)), (0, .ref (o 0))] rfl ?_
    refine z_iload_n mx mb dL_refusesPlaces_21 rfl 1 rfl ?_
    refine z_if_ne (tgt := 33) mx mb (by decide) dL_refusesPlaces_22 (by decide) (fun c22 => absurd c22 (by decide)) (fun _ => ?_)
    refine z_aload_n mx mb dL_refusesPlaces_25 rfl 2 rfl ?_
    refine z_iconst mx mb dL_refusesPlaces_26 ?_
    refine z_callSI (wa := []) (wc := (wC y o a13 S13 tb st)) (wb := []) (As := [.ref (o 0), .int (iZ 1)]) (rest := []) ⟨mx, mb, mml, mo, mts⟩ hK hA hE (fun sz => c_L_all l hl0 D sz y o a13 S13 tb st 1 (by decide) hT13) (vx_cwSW 2 mts gL_refusesPlaces_L_all rfl rfl rfl (by decide +kernel) ⟨Nat.le_of_ble_eq_true rfl, Nat.le_of_ble_eq_true rfl⟩) (List.append_nil _).symm rfl rfl (Nat.le_of_ble_eq_true rfl) ⟨Nat.le_of_ble_eq_true rfl, Nat.le_of_ble_eq_true rfl⟩ dL_refusesPlaces_27 (fun r27 u27 hu27 => ?_)
    rw [List.nil_append, List.append_nil]
    obtain ⟨a27, S27⟩ := u27
    obtain ⟨hr, hT27⟩ := hu27
    replace hT27 : Tie st S27 := hT27
    obtain rfl : r27 = iZ (st.1 1) := hr.trans (congrArg iZ (show allV st 1 = st.1 1 from by exact all_lo (by omega)))
    show Gz pp l ee ({ frames := 9, cells := 60, slots := 360, locals := 159 } : Room) ss mm args below meth cd 5 2 12 Q (Zw D vwCl (va_A wst sz) ss (wC y o a27 S27 tb st)) 30 [(2, .int (iZ (st.1 0))), (1, .int (iZ 0)), (0, .ref (o 0))] [.int (iZ (st.1 1))]
    refine z_goto (tgt := 34) mx mb dL_refusesPlaces_30 (by decide) ?_
    refine z_istore_n mx mb dL_refusesPlaces_34 rfl (by decide) [(3, .int (iZ (st.1 1))), (2, .int (iZ (st.1 0))), (1, .int (iZ 0)), (0, .ref (o 0))] rfl ?_
    refine z_iload_n mx mb dL_refusesPlaces_35 rfl 2 rfl ?_
    refine z_if_ne (tgt := 47) mx mb (by decide) dL_refusesPlaces_36 (by decide) (fun c36 => absurd c36 (by decide)) (fun _ => ?_)
    refine z_aload_n mx mb dL_refusesPlaces_39 rfl 3 rfl ?_
    refine z_iconst mx mb dL_refusesPlaces_40 ?_
    refine z_callSI (wa := []) (wc := (wC y o a27 S27 tb st)) (wb := []) (As := [.ref (o 0), .int (iZ 2)]) (rest := []) ⟨mx, mb, mml, mo, mts⟩ hK hA hE (fun sz => c_L_all l hl0 D sz y o a27 S27 tb st 2 (by decide) hT27) (vx_cwSW 2 mts gL_refusesPlaces_L_all rfl rfl rfl (by decide +kernel) ⟨Nat.le_of_ble_eq_true rfl, Nat.le_of_ble_eq_true rfl⟩) (List.append_nil _).symm rfl rfl (Nat.le_of_ble_eq_true rfl) ⟨Nat.le_of_ble_eq_true rfl, Nat.le_of_ble_eq_true rfl⟩ dL_refusesPlaces_41 (fun r41 u41 hu41 => ?_)
    rw [List.nil_append, List.append_nil]
    obtain ⟨a41, S41⟩ := u41
    obtain ⟨hr, hT41⟩ := hu41
    replace hT41 : Tie st S41 := hT41
    obtain rfl : r41 = iZ (st.1 2) := hr.trans (congrArg iZ (show allV st 2 = st.1 2 from by exact all_lo (by omega)))
    show Gz pp l ee ({ frames := 9, cells := 60, slots := 360, locals := 159 } : Room) ss mm args below meth cd 5 3 18 Q (Zw D vwCl (va_A wst sz) ss (wC y o a41 S41 tb st)) 44 [(3, .int (iZ (st.1 1))), (2, .int (iZ (st.1 0))), (1, .int (iZ 0)), (0, .ref (o 0))] [.int (iZ (st.1 2))]
    refine z_goto (tgt := 48) mx mb dL_refusesPlaces_44 (by decide) ?_
    refine z_istore mx mb dL_refusesPlaces_48 (by decide) [(4, .int (iZ (st.1 2))), (3, .int (iZ (st.1 1))), (2, .int (iZ (st.1 0))), (1, .int (iZ 0)), (0, .ref (o 0))] rfl ?_
    refine z_aload_n mx mb dL_refusesPlaces_50 rfl 4 rfl ?_
    refine z_iload_n mx mb dL_refusesPlaces_51 rfl 1 rfl ?_
    refine z_callSI (wa := []) (wc := (wC y o a41 S41 tb st)) (wb := []) (As := [.ref (o 0), .int (iZ (st.1 1))]) (rest := []) ⟨mx, mb, mml, mo, mts⟩ hK hA hE (fun sz => c_L_adding l hl0 D sz y o a41 S41 tb st (st.1 1) (by omega) hT41) (vx_cwSW 2 mts gL_refusesPlaces_L_adding rfl rfl rfl (by decide +kernel) ⟨Nat.le_of_ble_eq_true rfl, Nat.le_of_ble_eq_true rfl⟩) (List.append_nil _).symm rfl rfl (Nat.le_of_ble_eq_true rfl) ⟨Nat.le_of_ble_eq_true rfl, Nat.le_of_ble_eq_true rfl⟩ dL_refusesPlaces_52 (fun r52 u52 hu52 => ?_)
    rw [List.nil_append, List.append_nil]
    obtain ⟨a52, S52⟩ := u52
    obtain ⟨hr, hT52⟩ := hu52
    replace hT52 : Tie (addS st (st.1 1)) S52 := hT52
    obtain rfl : r52 = iZ (-3001) := hr.trans (congrArg iZ (rf_add st (st.1 1) (by omega)).1)
    show Gz pp l ee ({ frames := 9, cells := 60, slots := 360, locals := 159 } : Room) ss mm args below meth cd 5 4 24 Q (Zw D vwCl (va_A wst sz) ss (wC y o a52 S52 tb (addS st (st.1 1)))) 55 [(4, .int (iZ (st.1 2))), (3, .int (iZ (st.1 1))), (2, .int (iZ (st.1 0))), (1, .int (iZ 0)), (0, .ref (o 0))] [.int (iZ (-3001))]
    rw [(rf_add st (st.1 1) (by omega)).2]
    rw [(rf_add st (st.1 1) (by omega)).2] at hT52
    refine z_sipush mx mb dL_refusesPlaces_55 (by decide +kernel) ?_
    refine z_icmp_ne (tgt := 205) mx mb (by decide) (by decide) dL_refusesPlaces_58 (by decide) (fun c58 => absurd c58 (by decide)) (fun _ => ?_)
    refine z_aload_n mx mb dL_refusesPlaces_61 rfl 4 rfl ?_
    refine z_iload mx mb dL_refusesPlaces_62 0 rfl ?_
    refine z_callSI (wa := []) (wc := (wC y o a52 S52 tb st)) (wb := []) (As := [.ref (o 0), .int (iZ (st.1 2))]) (rest := []) ⟨mx, mb, mml, mo, mts⟩ hK hA hE (fun sz => c_L_rescuing l hl0 D sz y o a52 S52 tb st (st.1 2) (by omega) hT52) (vx_cwSW 2 mts gL_refusesPlaces_L_rescuing rfl rfl rfl (by decide +kernel) ⟨Nat.le_of_ble_eq_true rfl, Nat.le_of_ble_eq_true rfl⟩) (List.append_nil _).symm rfl rfl (Nat.le_of_ble_eq_true rfl) ⟨Nat.le_of_ble_eq_true rfl, Nat.le_of_ble_eq_true rfl⟩ dL_refusesPlaces_64 (fun r64 u64 hu64 => ?_)
    rw [List.nil_append, List.append_nil]
    obtain ⟨a64, S64⟩ := u64
    obtain ⟨hr, hT64⟩ := hu64
    replace hT64 : Tie (resS st (st.1 2)) S64 := hT64
    obtain rfl : r64 = iZ (-3001) := hr.trans (congrArg iZ (rf_res st (st.1 2) (by omega)).1)
    show Gz pp l ee ({ frames := 9, cells := 60, slots := 360, locals := 159 } : Room) ss mm args below meth cd 5 5 30 Q (Zw D vwCl (va_A wst sz) ss (wC y o a64 S64 tb (resS st (st.1 2)))) 67 [(4, .int (iZ (st.1 2))), (3, .int (iZ (st.1 1))), (2, .int (iZ (st.1 0))), (1, .int (iZ 0)), (0, .ref (o 0))] [.int (iZ (-3001))]
    rw [(rf_res st (st.1 2) (by omega)).2]
    rw [(rf_res st (st.1 2) (by omega)).2] at hT64
    refine z_sipush mx mb dL_refusesPlaces_67 (by decide +kernel) ?_
    refine z_icmp_ne (tgt := 205) mx mb (by decide) (by decide) dL_refusesPlaces_70 (by decide) (fun c70 => absurd c70 (by decide)) (fun _ => ?_)
    refine z_aload_n mx mb dL_refusesPlaces_73 rfl 4 rfl ?_
    refine z_iload_n mx mb dL_refusesPlaces_74 rfl 3 rfl ?_
    refine z_if_ne (tgt := 82) mx mb (by decide) dL_refusesPlaces_75 (by decide) (fun c75 => absurd c75 (by decide)) (fun _ => ?_)
    refine z_iconst mx mb dL_refusesPlaces_78 ?_
    refine z_goto (tgt := 83) mx mb dL_refusesPlaces_79 (by decide) ?_
    refine z_sipush mx mb dL_refusesPlaces_83 (by decide +kernel) ?_
    refine z_callSI (wa := []) (wc := (wC y o a64 S64 tb st)) (wb := []) (As := [.ref (o 0), .int (iZ 4), .int (iZ 999)]) (rest := []) ⟨mx, mb, mml, mo, mts⟩ hK hA hE (fun sz => c_L_setting l hl0 D sz y o a64 S64 tb st 4 999 (by decide) (by decide) hT64) (vx_cwSW 3 mts gL_refusesPlaces_L_setting rfl rfl rfl (by decide +kernel) ⟨Nat.le_of_ble_eq_true rfl, Nat.le_of_ble_eq_true rfl⟩) (List.append_nil _).symm rfl rfl (Nat.le_of_ble_eq_true rfl) ⟨Nat.le_of_ble_eq_true rfl, Nat.le_of_ble_eq_true rfl⟩ dL_refusesPlaces_86 (fun r86 u86 hu86 => ?_)
    rw [List.nil_append, List.append_nil]
    obtain ⟨a86, S86⟩ := u86
    obtain ⟨hr, hT86⟩ := hu86
    replace hT86 : Tie (setS st 4 999) S86 := hT86
    obtain rfl : r86 = iZ (-3001) := hr.trans (congrArg iZ (rf_set1 st 4 999 (by decide)).1)
    show Gz pp l ee ({ frames := 9, cells := 60, slots := 360, locals := 159 } : Room) ss mm args below meth cd 5 6 36 Q (Zw D vwCl (va_A wst sz) ss (wC y o a86 S86 tb (setS st 4 999))) 89 [(4, .int (iZ (st.1 2))), (3, .int (iZ (st.1 1))), (2, .int (iZ (st.1 0))), (1, .int (iZ 0)), (0, .ref (o 0))] [.int (iZ (-3001))]
    rw [(rf_set1 st 4 999 (by decide)).2]
    rw [(rf_set1 st 4 999 (by decide)).2] at hT86
    refine z_sipush mx mb dL_refusesPlaces_89 (by decide +kernel) ?_
    refine z_icmp_ne (tgt := 205) mx mb (by decide) (by decide) dL_refusesPlaces_92 (by decide) (fun c92 => absurd c92 (by decide)) (fun _ => ?_)
    refine z_aload_n mx mb dL_refusesPlaces_95 rfl 4 rfl ?_
    refine z_iload_n mx mb dL_refusesPlaces_96 rfl 2 rfl ?_
    refine z_bipush mx mb dL_refusesPlaces_97 (by decide +kernel) ?_
    refine z_callSI (wa := []) (wc := (wC y o a86 S86 tb st)) (wb := []) (As := [.ref (o 0), .int (iZ (st.1 0)), .int (iZ 99)]) (rest := []) ⟨mx, mb, mml, mo, mts⟩ hK hA hE (fun sz => c_L_heighten l hl0 D sz y o a86 S86 tb st (st.1 0) 99 (by omega) (by decide) hT86) (vx_cwSW 3 mts gL_refusesPlaces_L_heighten rfl rfl rfl (by decide +kernel) ⟨Nat.le_of_ble_eq_true rfl, Nat.le_of_ble_eq_true rfl⟩) (List.append_nil _).symm rfl rfl (Nat.le_of_ble_eq_true rfl) ⟨Nat.le_of_ble_eq_true rfl, Nat.le_of_ble_eq_true rfl⟩ dL_refusesPlaces_99 (fun r99 u99 hu99 => ?_)
    rw [List.nil_append, List.append_nil]
    obtain ⟨a99, S99⟩ := u99
    obtain ⟨hr, hT99⟩ := hu99
    replace hT99 : Tie (hgtS st (st.1 0) 99) S99 := hT99
    obtain rfl : r99 = iZ (-3001) := hr.trans (congrArg iZ (rf_hgt1 st (st.1 0) 99 (by omega)).1)
    show Gz pp l ee ({ frames := 9, cells := 60, slots := 360, locals := 159 } : Room) ss mm args below meth cd 5 7 42 Q (Zw D vwCl (va_A wst sz) ss (wC y o a99 S99 tb (hgtS st (st.1 0) 99))) 102 [(4, .int (iZ (st.1 2))), (3, .int (iZ (st.1 1))), (2, .int (iZ (st.1 0))), (1, .int (iZ 0)), (0, .ref (o 0))] [.int (iZ (-3001))]
    rw [(rf_hgt1 st (st.1 0) 99 (by omega)).2]
    rw [(rf_hgt1 st (st.1 0) 99 (by omega)).2] at hT99
    refine z_sipush mx mb dL_refusesPlaces_102 (by decide +kernel) ?_
    refine z_icmp_ne (tgt := 205) mx mb (by decide) (by decide) dL_refusesPlaces_105 (by decide) (fun c105 => absurd c105 (by decide)) (fun _ => ?_)
    refine z_aload_n mx mb dL_refusesPlaces_108 rfl 4 rfl ?_
    refine z_iload mx mb dL_refusesPlaces_109 0 rfl ?_
    refine z_bipush mx mb dL_refusesPlaces_111 (by decide +kernel) ?_
    refine z_callSI (wa := []) (wc := (wC y o a99 S99 tb st)) (wb := []) (As := [.ref (o 0), .int (iZ (st.1 2)), .int (iZ 99)]) (rest := []) ⟨mx, mb, mml, mo, mts⟩ hK hA hE (fun sz => c_L_trainBy l hl0 D sz y o a99 S99 tb st (st.1 2) 99 (by omega) (by decide) hT99) (vx_cwSW 3 mts gL_refusesPlaces_L_trainBy rfl rfl rfl (by decide +kernel) ⟨Nat.le_of_ble_eq_true rfl, Nat.le_of_ble_eq_true rfl⟩) (List.append_nil _).symm rfl rfl (Nat.le_of_ble_eq_true rfl) ⟨Nat.le_of_ble_eq_true rfl, Nat.le_of_ble_eq_true rfl⟩ dL_refusesPlaces_113 (fun r113 u113 hu113 => ?_)
    rw [List.nil_append, List.append_nil]
    obtain ⟨a113, S113⟩ := u113
    obtain ⟨hr, hT113⟩ := hu113
    replace hT113 : Tie st S113 := hT113
    obtain rfl : r113 = iZ (-3001) := hr.trans (congrArg iZ (rf_trn1 st (st.1 2) 99 (by omega)))
    show Gz pp l ee ({ frames := 9, cells := 60, slots := 360, locals := 159 } : Room) ss mm args below meth cd 5 8 48 Q (Zw D vwCl (va_A wst sz) ss (wC y o a113 S113 tb st)) 116 [(4, .int (iZ (st.1 2))), (3, .int (iZ (st.1 1))), (2, .int (iZ (st.1 0))), (1, .int (iZ 0)), (0, .ref (o 0))] [.int (iZ (-3001))]
    refine z_sipush mx mb dL_refusesPlaces_116 (by decide +kernel) ?_
    refine z_icmp_ne (tgt := 205) mx mb (by decide) (by decide) dL_refusesPlaces_119 (by decide) (fun c119 => absurd c119 (by decide)) (fun _ => ?_)
    refine z_aload_n mx mb dL_refusesPlaces_122 rfl 4 rfl ?_
    refine z_iload_n mx mb dL_refusesPlaces_123 rfl 2 rfl ?_
    refine z_bipush mx mb dL_refusesPlaces_124 (by decide +kernel) ?_
    refine z_callSI (wa := []) (wc := (wC y o a113 S113 tb st)) (wb := []) (As := [.ref (o 0), .int (iZ (st.1 0)), .int (iZ 99)]) (rest := []) ⟨mx, mb, mml, mo, mts⟩ hK hA hE (fun sz => c_L_cellBy l hl0 D sz y o a113 S113 tb st (st.1 0) 99 (by omega) (by decide) hT113) (vx_cwSW 3 mts gL_refusesPlaces_L_cellBy rfl rfl rfl (by decide +kernel) ⟨Nat.le_of_ble_eq_true rfl, Nat.le_of_ble_eq_true rfl⟩) (List.append_nil _).symm rfl rfl (Nat.le_of_ble_eq_true rfl) ⟨Nat.le_of_ble_eq_true rfl, Nat.le_of_ble_eq_true rfl⟩ dL_refusesPlaces_126 (fun r126 u126 hu126 => ?_)
    rw [List.nil_append, List.append_nil]
    obtain ⟨a126, S126⟩ := u126
    obtain ⟨hr, hT126⟩ := hu126
    replace hT126 : Tie st S126 := hT126
    obtain rfl : r126 = iZ (-3001) := hr.trans (congrArg iZ (rf_cel1 st (st.1 0) 99 (by omega)))
    show Gz pp l ee ({ frames := 9, cells := 60, slots := 360, locals := 159 } : Room) ss mm args below meth cd 5 9 54 Q (Zw D vwCl (va_A wst sz) ss (wC y o a126 S126 tb st)) 129 [(4, .int (iZ (st.1 2))), (3, .int (iZ (st.1 1))), (2, .int (iZ (st.1 0))), (1, .int (iZ 0)), (0, .ref (o 0))] [.int (iZ (-3001))]
    refine z_sipush mx mb dL_refusesPlaces_129 (by decide +kernel) ?_
    refine z_icmp_ne (tgt := 205) mx mb (by decide) (by decide) dL_refusesPlaces_132 (by decide) (fun c132 => absurd c132 (by decide)) (fun _ => ?_)
    refine z_aload_n mx mb dL_refusesPlaces_135 rfl 4 rfl ?_
    refine z_iload_n mx mb dL_refusesPlaces_136 rfl 1 rfl ?_
    refine z_bipush mx mb dL_refusesPlaces_137 (by decide +kernel) ?_
    refine z_callSI (wa := []) (wc := (wC y o a126 S126 tb st)) (wb := []) (As := [.ref (o 0), .int (iZ (st.1 1)), .int (iZ 99)]) (rest := []) ⟨mx, mb, mml, mo, mts⟩ hK hA hE (fun sz => c_L_blockBy l hl0 D sz y o a126 S126 tb st (st.1 1) 99 (by omega) (by decide) hT126) (vx_cwSW 3 mts gL_refusesPlaces_L_blockBy rfl rfl rfl (by decide +kernel) ⟨Nat.le_of_ble_eq_true rfl, Nat.le_of_ble_eq_true rfl⟩) (List.append_nil _).symm rfl rfl (Nat.le_of_ble_eq_true rfl) ⟨Nat.le_of_ble_eq_true rfl, Nat.le_of_ble_eq_true rfl⟩ dL_refusesPlaces_139 (fun r139 u139 hu139 => ?_)
    rw [List.nil_append, List.append_nil]
    obtain ⟨a139, S139⟩ := u139
    obtain ⟨hr, hT139⟩ := hu139
    replace hT139 : Tie st S139 := hT139
    obtain rfl : r139 = iZ (-3001) := hr.trans (congrArg iZ (rf_blk1 st (st.1 1) 99 (by omega)))
    show Gz pp l ee ({ frames := 9, cells := 60, slots := 360, locals := 159 } : Room) ss mm args below meth cd 5 10 60 Q (Zw D vwCl (va_A wst sz) ss (wC y o a139 S139 tb st)) 142 [(4, .int (iZ (st.1 2))), (3, .int (iZ (st.1 1))), (2, .int (iZ (st.1 0))), (1, .int (iZ 0)), (0, .ref (o 0))] [.int (iZ (-3001))]
    refine z_sipush mx mb dL_refusesPlaces_142 (by decide +kernel) ?_
    refine z_icmp_ne (tgt := 205) mx mb (by decide) (by decide) dL_refusesPlaces_145 (by decide) (fun c145 => absurd c145 (by decide)) (fun _ => ?_)
    refine z_aload_n mx mb dL_refusesPlaces_148 rfl 4 rfl ?_
    refine z_iload mx mb dL_refusesPlaces_149 0 rfl ?_
    refine z_callSI (wa := []) (wc := (wC y o a139 S139 tb st)) (wb := []) (As := [.ref (o 0), .int (iZ (st.1 2))]) (rest := []) ⟨mx, mb, mml, mo, mts⟩ hK hA hE (fun sz => c_L_reason l hl0 D sz y o a139 S139 tb st (st.1 2) (by omega) hT139) (vx_cwSW 2 mts gL_refusesPlaces_L_reason rfl rfl rfl (by decide +kernel) ⟨Nat.le_of_ble_eq_true rfl, Nat.le_of_ble_eq_true rfl⟩) (List.append_nil _).symm rfl rfl (Nat.le_of_ble_eq_true rfl) ⟨Nat.le_of_ble_eq_true rfl, Nat.le_of_ble_eq_true rfl⟩ dL_refusesPlaces_151 (fun r151 u151 hu151 => ?_)
    rw [List.nil_append, List.append_nil]
    obtain ⟨a151, S151⟩ := u151
    obtain ⟨hr, hT151⟩ := hu151
    replace hT151 : Tie st S151 := hT151
    obtain rfl : r151 = iZ (-3001) := hr.trans (congrArg iZ (rf_why st (st.1 2) (by omega)))
    show Gz pp l ee ({ frames := 9, cells := 60, slots := 360, locals := 159 } : Room) ss mm args below meth cd 5 11 66 Q (Zw D vwCl (va_A wst sz) ss (wC y o a151 S151 tb st)) 154 [(4, .int (iZ (st.1 2))), (3, .int (iZ (st.1 1))), (2, .int (iZ (st.1 0))), (1, .int (iZ 0)), (0, .ref (o 0))] [.int (iZ (-3001))]
    refine z_sipush mx mb dL_refusesPlaces_154 (by decide +kernel) ?_
    refine z_icmp_ne (tgt := 205) mx mb (by decide) (by decide) dL_refusesPlaces_157 (by decide) (fun c157 => absurd c157 (by decide)) (fun _ => ?_)
    refine z_aload_n mx mb dL_refusesPlaces_160 rfl 4 rfl ?_
    refine z_iload mx mb dL_refusesPlaces_161 0 rfl ?_
    refine z_callSI (wa := []) (wc := (wC y o a151 S151 tb st)) (wb := []) (As := [.ref (o 0), .int (iZ (st.1 2))]) (rest := []) ⟨mx, mb, mml, mo, mts⟩ hK hA hE (fun sz => c_L_toStation l hl0 D sz y o a151 S151 tb st (st.1 2) (by omega) hT151) (vx_cwSW 2 mts gL_refusesPlaces_L_toStation rfl rfl rfl (by decide +kernel) ⟨Nat.le_of_ble_eq_true rfl, Nat.le_of_ble_eq_true rfl⟩) (List.append_nil _).symm rfl rfl (Nat.le_of_ble_eq_true rfl) ⟨Nat.le_of_ble_eq_true rfl, Nat.le_of_ble_eq_true rfl⟩ dL_refusesPlaces_163 (fun r163 u163 hu163 => ?_)
    rw [List.nil_append, List.append_nil]
    obtain ⟨a163, S163⟩ := u163
    obtain ⟨hr, hT163⟩ := hu163
    replace hT163 : Tie st S163 := hT163
    obtain rfl : r163 = iZ (-3001) := hr.trans (congrArg iZ (rf_tos st (st.1 2) (by omega)))
    show Gz pp l ee ({ frames := 9, cells := 60, slots := 360, locals := 159 } : Room) ss mm args below meth cd 5 12 72 Q (Zw D vwCl (va_A wst sz) ss (wC y o a163 S163 tb st)) 166 [(4, .int (iZ (st.1 2))), (3, .int (iZ (st.1 1))), (2, .int (iZ (st.1 0))), (1, .int (iZ 0)), (0, .ref (o 0))] [.int (iZ (-3001))]
    refine z_sipush mx mb dL_refusesPlaces_166 (by decide +kernel) ?_
    refine z_icmp_ne (tgt := 205) mx mb (by decide) (by decide) dL_refusesPlaces_169 (by decide) (fun c169 => absurd c169 (by decide)) (fun _ => ?_)
    refine z_aload_n mx mb dL_refusesPlaces_172 rfl 4 rfl ?_
    refine z_iload_n mx mb dL_refusesPlaces_173 rfl 2 rfl ?_
    refine z_callSI (wa := []) (wc := (wC y o a163 S163 tb st)) (wb := []) (As := [.ref (o 0), .int (iZ (st.1 0))]) (rest := []) ⟨mx, mb, mml, mo, mts⟩ hK hA hE (fun sz => c_L_least l hl0 D sz y o a163 S163 tb st (st.1 0) (by omega) hT163) (vx_cwSW 2 mts gL_refusesPlaces_L_least rfl rfl rfl (by decide +kernel) ⟨Nat.le_of_ble_eq_true rfl, Nat.le_of_ble_eq_true rfl⟩) (List.append_nil _).symm rfl rfl (Nat.le_of_ble_eq_true rfl) ⟨Nat.le_of_ble_eq_true rfl, Nat.le_of_ble_eq_true rfl⟩ dL_refusesPlaces_174 (fun r174 u174 hu174 => ?_)
    rw [List.nil_append, List.append_nil]
    obtain ⟨a174, S174⟩ := u174
    obtain ⟨hr, hT174⟩ := hu174
    replace hT174 : Tie st S174 := hT174
    obtain rfl : r174 = iZ (-3001) := hr.trans (congrArg iZ (rf_lst st (st.1 0) (by omega)))
    show Gz pp l ee ({ frames := 9, cells := 60, slots := 360, locals := 159 } : Room) ss mm args below meth cd 5 13 78 Q (Zw D vwCl (va_A wst sz) ss (wC y o a174 S174 tb st)) 177 [(4, .int (iZ (st.1 2))), (3, .int (iZ (st.1 1))), (2, .int (iZ (st.1 0))), (1, .int (iZ 0)), (0, .ref (o 0))] [.int (iZ (-3001))]
    refine z_sipush mx mb dL_refusesPlaces_177 (by decide +kernel) ?_
    refine z_icmp_ne (tgt := 205) mx mb (by decide) (by decide) dL_refusesPlaces_180 (by decide) (fun c180 => absurd c180 (by decide)) (fun _ => ?_)
    refine z_aload_n mx mb dL_refusesPlaces_183 rfl 4 rfl ?_
    refine z_iload_n mx mb dL_refusesPlaces_184 rfl 3 rfl ?_
    refine z_if_ne (tgt := 193) mx mb (by decide) dL_refusesPlaces_185 (by decide) (fun c185 => absurd c185 (by decide)) (fun _ => ?_)
    refine z_bipush mx mb dL_refusesPlaces_188 (by decide +kernel) ?_
    refine z_goto (tgt := 194) mx mb dL_refusesPlaces_190 (by decide) ?_
    refine z_bipush mx mb dL_refusesPlaces_194 (by decide +kernel) ?_
    refine z_callSI (wa := []) (wc := (wC y o a174 S174 tb st)) (wb := []) (As := [.ref (o 0), .int (iZ 30), .int (iZ 9)]) (rest := []) ⟨mx, mb, mml, mo, mts⟩ hK hA hE (fun sz => c_L_sent l hl0 D sz y o a174 S174 tb st 30 9 (by decide) (by decide) hT174) (vx_cwSW 3 mts gL_refusesPlaces_L_sent rfl rfl rfl (by decide +kernel) ⟨Nat.le_of_ble_eq_true rfl, Nat.le_of_ble_eq_true rfl⟩) (List.append_nil _).symm rfl rfl (Nat.le_of_ble_eq_true rfl) ⟨Nat.le_of_ble_eq_true rfl, Nat.le_of_ble_eq_true rfl⟩ dL_refusesPlaces_196 (fun r196 u196 hu196 => ?_)
    rw [List.nil_append, List.append_nil]
    obtain ⟨a196, S196⟩ := u196
    obtain ⟨hr, hT196⟩ := hu196
    replace hT196 : Tie st S196 := hT196
    obtain rfl : r196 = iZ (-3001) := hr.trans (congrArg iZ (rf_snt1 st 30 9 (by omega)))
    show Gz pp l ee ({ frames := 9, cells := 60, slots := 360, locals := 159 } : Room) ss mm args below meth cd 5 14 84 Q (Zw D vwCl (va_A wst sz) ss (wC y o a196 S196 tb st)) 199 [(4, .int (iZ (st.1 2))), (3, .int (iZ (st.1 1))), (2, .int (iZ (st.1 0))), (1, .int (iZ 0)), (0, .ref (o 0))] [.int (iZ (-3001))]
    refine z_sipush mx mb dL_refusesPlaces_199 (by decide +kernel) ?_
    refine z_icmp_eq (tgt := 207) mx mb (by decide) (by decide) dL_refusesPlaces_202 (by decide) (fun _ => ?_) (fun c202 => absurd c202 (by decide))
    refine z_aload_n mx mb dL_refusesPlaces_207 rfl 4 rfl ?_
    refine z_iconst mx mb dL_refusesPlaces_208 ?_
    refine z_iload_n mx mb dL_refusesPlaces_209 rfl 3 rfl ?_
    refine z_if_ne (tgt := 217) mx mb (by decide) dL_refusesPlaces_210 (by decide) (fun c210 => absurd c210 (by decide)) (fun _ => ?_)
    refine z_iconst mx mb dL_refusesPlaces_213 ?_
    refine z_goto (tgt := 218) mx mb dL_refusesPlaces_214 (by decide) ?_
    refine z_callSI (wa := []) (wc := (wC y o a196 S196 tb st)) (wb := []) (As := [.ref (o 0), .int (iZ 0), .int (iZ 4)]) (rest := []) ⟨mx, mb, mml, mo, mts⟩ hK hA hE (fun sz => c_L_cellBy l hl0 D sz y o a196 S196 tb st 0 4 (by decide) (by decide) hT196) (vx_cwSW 3 mts gL_refusesPlaces_L_cellBy rfl rfl rfl (by decide +kernel) ⟨Nat.le_of_ble_eq_true rfl, Nat.le_of_ble_eq_true rfl⟩) (List.append_nil _).symm rfl rfl (Nat.le_of_ble_eq_true rfl) ⟨Nat.le_of_ble_eq_true rfl, Nat.le_of_ble_eq_true rfl⟩ dL_refusesPlaces_218 (fun r218 u218 hu218 => ?_)
    rw [List.nil_append, List.append_nil]
    obtain ⟨a218, S218⟩ := u218
    obtain ⟨hr, hT218⟩ := hu218
    replace hT218 : Tie st S218 := hT218
    obtain rfl : r218 = iZ (-3002) := hr.trans (congrArg iZ (rf_cel2 st 0 4 (by omega) (by omega)))
    show Gz pp l ee ({ frames := 9, cells := 60, slots := 360, locals := 159 } : Room) ss mm args below meth cd 5 15 90 Q (Zw D vwCl (va_A wst sz) ss (wC y o a218 S218 tb st)) 221 [(4, .int (iZ (st.1 2))), (3, .int (iZ (st.1 1))), (2, .int (iZ (st.1 0))), (1, .int (iZ 0)), (0, .ref (o 0))] [.int (iZ (-3002))]
    refine z_sipush mx mb dL_refusesPlaces_221 (by decide +kernel) ?_
    refine z_icmp_ne (tgt := 305) mx mb (by decide) (by decide) dL_refusesPlaces_224 (by decide) (fun c224 => absurd c224 (by decide)) (fun _ => ?_)
    refine z_aload_n mx mb dL_refusesPlaces_227 rfl 4 rfl ?_
    refine z_iconst mx mb dL_refusesPlaces_228 ?_
    refine z_iload_n mx mb dL_refusesPlaces_229 rfl 3 rfl ?_
    refine z_if_ne (tgt := 237) mx mb (by decide) dL_refusesPlaces_230 (by decide) (fun c230 => absurd c230 (by decide)) (fun _ => ?_)
    refine z_iconst mx mb dL_refusesPlaces_233 ?_
    refine z_goto (tgt := 238) mx mb dL_refusesPlaces_234 (by decide) ?_
    refine z_callSI (wa := []) (wc := (wC y o a218 S218 tb st)) (wb := []) (As := [.ref (o 0), .int (iZ 0), .int (iZ 5)]) (rest := []) ⟨mx, mb, mml, mo, mts⟩ hK hA hE (fun sz => c_L_blockBy l hl0 D sz y o a218 S218 tb st 0 5 (by decide) (by decide) hT218) (vx_cwSW 3 mts gL_refusesPlaces_L_blockBy rfl rfl rfl (by decide +kernel) ⟨Nat.le_of_ble_eq_true rfl, Nat.le_of_ble_eq_true rfl⟩) (List.append_nil _).symm rfl rfl (Nat.le_of_ble_eq_true rfl) ⟨Nat.le_of_ble_eq_true rfl, Nat.le_of_ble_eq_true rfl⟩ dL_refusesPlaces_238 (fun r238 u238 hu238 => ?_)
    rw [List.nil_append, List.append_nil]
    obtain ⟨a238, S238⟩ := u238
    obtain ⟨hr, hT238⟩ := hu238
    replace hT238 : Tie st S238 := hT238
    obtain rfl : r238 = iZ (-3002) := hr.trans (congrArg iZ (rf_blk2 st 0 5 (by omega) (by omega)))
    show Gz pp l ee ({ frames := 9, cells := 60, slots := 360, locals := 159 } : Room) ss mm args below meth cd 5 16 96 Q (Zw D vwCl (va_A wst sz) ss (wC y o a238 S238 tb st)) 241 [(4, .int (iZ (st.1 2))), (3, .int (iZ (st.1 1))), (2, .int (iZ (st.1 0))), (1, .int (iZ 0)), (0, .ref (o 0))] [.int (iZ (-3002))]
    refine z_sipush mx mb dL_refusesPlaces_241 (by decide +kernel) ?_
    refine z_icmp_ne (tgt := 305) mx mb (by decide) (by decide) dL_refusesPlaces_244 (by decide) (fun c244 => absurd c244 (by decide)) (fun _ => ?_)
    refine z_aload_n mx mb dL_refusesPlaces_247 rfl 4 rfl ?_
    refine z_iconst mx mb dL_refusesPlaces_248 ?_
    refine z_callSI (wa := []) (wc := (wC y o a238 S238 tb st)) (wb := []) (As := [.ref (o 0), .int (iZ 2)]) (rest := []) ⟨mx, mb, mml, mo, mts⟩ hK hA hE (fun sz => c_L_all l hl0 D sz y o a238 S238 tb st 2 (by decide) hT238) (vx_cwSW 2 mts gL_refusesPlaces_L_all rfl rfl rfl (by decide +kernel) ⟨Nat.le_of_ble_eq_true rfl, Nat.le_of_ble_eq_true rfl⟩) (List.append_nil _).symm rfl rfl (Nat.le_of_ble_eq_true rfl) ⟨Nat.le_of_ble_eq_true rfl, Nat.le_of_ble_eq_true rfl⟩ dL_refusesPlaces_249 (fun r249 u249 hu249 => ?_)
    rw [List.nil_append, List.append_nil]
    obtain ⟨a249, S249⟩ := u249
    obtain ⟨hr, hT249⟩ := hu249
    replace hT249 : Tie st S249 := hT249
    obtain rfl : r249 = iZ (st.1 2) := hr.trans (congrArg iZ (show allV st 2 = st.1 2 from by exact all_lo (by omega)))
    show Gz pp l ee ({ frames := 9, cells := 60, slots := 360, locals := 159 } : Room) ss mm args below meth cd 5 17 102 Q (Zw D vwCl (va_A wst sz) ss (wC y o a249 S249 tb st)) 252 [(4, .int (iZ (st.1 2))), (3, .int (iZ (st.1 1))), (2, .int (iZ (st.1 0))), (1, .int (iZ 0)), (0, .ref (o 0))] [.int (iZ (st.1 2))]
    have jn276 : ∀ (a8 : Nat → Nat → Nat) (S8 : Nat → Nat → Int → Int), (Tie st S8) → Gz pp l ee ({ frames := 9, cells := 60, slots := 360, locals := 159 } : Room) ss mm args below meth cd 5 18 108 Q (Zw D vwCl (va_A wst sz) ss (wC y o a8 S8 tb st)) 276 [(4, .int (iZ (st.1 2))), (3, .int (iZ (st.1 1))), (2, .int (iZ (st.1 0))), (1, .int (iZ 0)), (0, .ref (o 0))] [] := by
      intro a8 S8 hT8
      refine z_aload_n mx mb dL_refusesPlaces_276 rfl 4 rfl ?_
      refine z_iconst mx mb dL_refusesPlaces_277 ?_
      refine z_iconst mx mb dL_refusesPlaces_278 ?_
      refine z_callSI (wa := []) (wc := (wC y o a8 S8 tb st)) (wb := []) (As := [.ref (o 0), .int (iZ 0), .int (iZ 0)]) (rest := []) ⟨mx, mb, mml, mo, mts⟩ hK hA hE (fun sz => c_L_sent l hl0 D sz y o a8 S8 tb st 0 0 (by decide) (by decide) hT8) (vx_cwSW 3 mts gL_refusesPlaces_L_sent rfl rfl rfl (by decide +kernel) ⟨Nat.le_of_ble_eq_true rfl, Nat.le_of_ble_eq_true rfl⟩) (List.append_nil _).symm rfl rfl (Nat.le_of_ble_eq_true rfl) ⟨Nat.le_of_ble_eq_true rfl, Nat.le_of_ble_eq_true rfl⟩ dL_refusesPlaces_279 (fun r279 u279 hu279 => ?_)
      rw [List.nil_append, List.append_nil]
      obtain ⟨a279, S279⟩ := u279
      obtain ⟨hr, hT279⟩ := hu279
      replace hT279 : Tie st S279 := hT279
      obtain rfl : r279 = iZ (sntV st 0 0) := hr
      show Gz pp l ee ({ frames := 9, cells := 60, slots := 360, locals := 159 } : Room) ss mm args below meth cd 5 19 114 Q (Zw D vwCl (va_A wst sz) ss (wC y o a279 S279 tb st)) 282 [(4, .int (iZ (st.1 2))), (3, .int (iZ (st.1 1))), (2, .int (iZ (st.1 0))), (1, .int (iZ 0)), (0, .ref (o 0))] [.int (iZ (sntV st 0 0))]
      have jn307 : ∀ (a8 : Nat → Nat → Nat) (S8 : Nat → Nat → Int → Int), (Tie st S8) → Gz pp l ee ({ frames := 9, cells := 60, slots := 360, locals := 159 } : Room) ss mm args below meth cd 5 20 120 Q (Zw D vwCl (va_A wst sz) ss (wC y o a8 S8 tb st)) 307 [(4, .int (iZ (st.1 2))), (3, .int (iZ (st.1 1))), (2, .int (iZ (st.1 0))), (1, .int (iZ 0)), (0, .ref (o 0))] [] := by
        intro a8 S8 hT8
        refine z_iinc mx mb dL_refusesPlaces_307 3 rfl (by decide) [(1, .int (iZ 1)), (4, .int (iZ (st.1 2))), (3, .int (iZ (st.1 1))), (2, .int (iZ (st.1 0))), (0, .ref (o 0))] (by rfl) ?_
        refine z_goto (tgt := 2) mx mb dL_refusesPlaces_310 (by decide) ?_
        refine z_iload_n mx mb dL_refusesPlaces_2 rfl 0 rfl ?_
        refine z_iconst mx mb dL_refusesPlaces_3 ?_
        refine z_icmp_ge (tgt := 313) mx mb (by decide) (by decide) dL_refusesPlaces_4 (by decide) (fun c4 => absurd c4 (by decide)) (fun _ => ?_)
        refine z_iload_n mx mb dL_refusesPlaces_7 rfl 0 rfl ?_
        refine z_if_ne (tgt := 19) mx mb (by decide) dL_refusesPlaces_8 (by decide) (fun _ => ?_) (fun c8 => absurd c8 (by decide))
        refine z_iconst mx mb dL_refusesPlaces_19 ?_
        refine z_istore_n mx mb dL_refusesPlaces_20 rfl (by decide) [(2, .int (iZ (-1))), (1, .int (iZ 1)), (4, .int (iZ (st.1 2))), (3, .int (iZ (st.1 1))), (0, .ref (o 0))] rfl ?_
        refine z_iload_n mx mb dL_refusesPlaces_21 rfl 1 rfl ?_
        refine z_if_ne (tgt := 33) mx mb (by decide) dL_refusesPlaces_22 (by decide) (fun _ => ?_) (fun c22 => absurd c22 (by decide))
        refine z_iconst mx mb dL_refusesPlaces_33 ?_
        refine z_istore_n mx mb dL_refusesPlaces_34 rfl (by decide) [(3, .int (iZ (-1))), (2, .int (iZ (-1))), (1, .int (iZ 1)), (4, .int (iZ (st.1 2))), (0, .ref (o 0))] rfl ?_
        refine z_iload_n mx mb dL_refusesPlaces_35 rfl 2 rfl ?_
        refine z_if_ne (tgt := 47) mx mb (by decide) dL_refusesPlaces_36 (by decide) (fun _ => ?_) (fun c36 => absurd c36 (by decide))
        refine z_iconst mx mb dL_refusesPlaces_47 ?_
        refine z_istore mx mb dL_refusesPlaces_48 (by decide) [(4, .int (iZ (-1))), (3, .int (iZ (-1))), (2, .int (iZ (-1))), (1, .int (iZ 1)), (0, .ref (o 0))] rfl ?_
        refine z_aload_n mx mb dL_refusesPlaces_50 rfl 4 rfl ?_
        refine z_iload_n mx mb dL_refusesPlaces_51 rfl 1 rfl ?_
        refine z_callSI (wa := []) (wc := (wC y o a8 S8 tb st)) (wb := []) (As := [.ref (o 0), .int (iZ (-1))]) (rest := []) ⟨mx, mb, mml, mo, mts⟩ hK hA hE (fun sz => c_L_adding l hl0 D sz y o a8 S8 tb st (-1) (by decide) hT8) (vx_cwSW 2 mts gL_refusesPlaces_L_adding rfl rfl rfl (by decide +kernel) ⟨Nat.le_of_ble_eq_true rfl, Nat.le_of_ble_eq_true rfl⟩) (List.append_nil _).symm rfl rfl (Nat.le_of_ble_eq_true rfl) ⟨Nat.le_of_ble_eq_true rfl, Nat.le_of_ble_eq_true rfl⟩ dL_refusesPlaces_52 (fun r52 u52 hu52 => ?_)
        rw [List.nil_append, List.append_nil]
        obtain ⟨a52, S52⟩ := u52
        obtain ⟨hr, hT52⟩ := hu52
        replace hT52 : Tie (addS st (-1)) S52 := hT52
        obtain rfl : r52 = iZ (-3001) := hr.trans (congrArg iZ (rf_add st (-1) (by omega)).1)
        show Gz pp l ee ({ frames := 9, cells := 60, slots := 360, locals := 159 } : Room) ss mm args below meth cd 5 21 126 Q (Zw D vwCl (va_A wst sz) ss (wC y o a52 S52 tb (addS st (-1)))) 55 [(4, .int (iZ (-1))), (3, .int (iZ (-1))), (2, .int (iZ (-1))), (1, .int (iZ 1)), (0, .ref (o 0))] [.int (iZ (-3001))]
        rw [(rf_add st (-1) (by omega)).2]
        rw [(rf_add st (-1) (by omega)).2] at hT52
        refine z_sipush mx mb dL_refusesPlaces_55 (by decide +kernel) ?_
        refine z_icmp_ne (tgt := 205) mx mb (by decide) (by decide) dL_refusesPlaces_58 (by decide) (fun c58 => absurd c58 (by decide)) (fun _ => ?_)
        refine z_aload_n mx mb dL_refusesPlaces_61 rfl 4 rfl ?_
        refine z_iload mx mb dL_refusesPlaces_62 0 rfl ?_
        refine z_callSI (wa := []) (wc := (wC y o a52 S52 tb st)) (wb := []) (As := [.ref (o 0), .int (iZ (-1))]) (rest := []) ⟨mx, mb, mml, mo, mts⟩ hK hA hE (fun sz => c_L_rescuing l hl0 D sz y o a52 S52 tb st (-1) (by decide) hT52) (vx_cwSW 2 mts gL_refusesPlaces_L_rescuing rfl rfl rfl (by decide +kernel) ⟨Nat.le_of_ble_eq_true rfl, Nat.le_of_ble_eq_true rfl⟩) (List.append_nil _).symm rfl rfl (Nat.le_of_ble_eq_true rfl) ⟨Nat.le_of_ble_eq_true rfl, Nat.le_of_ble_eq_true rfl⟩ dL_refusesPlaces_64 (fun r64 u64 hu64 => ?_)
        rw [List.nil_append, List.append_nil]
        obtain ⟨a64, S64⟩ := u64
        obtain ⟨hr, hT64⟩ := hu64
        replace hT64 : Tie (resS st (-1)) S64 := hT64
        obtain rfl : r64 = iZ (-3001) := hr.trans (congrArg iZ (rf_res st (-1) (by omega)).1)
        show Gz pp l ee ({ frames := 9, cells := 60, slots := 360, locals := 159 } : Room) ss mm args below meth cd 5 22 132 Q (Zw D vwCl (va_A wst sz) ss (wC y o a64 S64 tb (resS st (-1)))) 67 [(4, .int (iZ (-1))), (3, .int (iZ (-1))), (2, .int (iZ (-1))), (1, .int (iZ 1)), (0, .ref (o 0))] [.int (iZ (-3001))]
        rw [(rf_res st (-1) (by omega)).2]
        rw [(rf_res st (-1) (by omega)).2] at hT64
        refine z_sipush mx mb dL_refusesPlaces_67 (by decide +kernel) ?_
        refine z_icmp_ne (tgt := 205) mx mb (by decide) (by decide) dL_refusesPlaces_70 (by decide) (fun c70 => absurd c70 (by decide)) (fun _ => ?_)
        refine z_aload_n mx mb dL_refusesPlaces_73 rfl 4 rfl ?_
        refine z_iload_n mx mb dL_refusesPlaces_74 rfl 3 rfl ?_
        refine z_if_ne (tgt := 82) mx mb (by decide) dL_refusesPlaces_75 (by decide) (fun _ => ?_) (fun c75 => absurd c75 (by decide))
        refine z_iconst mx mb dL_refusesPlaces_82 ?_
        refine z_sipush mx mb dL_refusesPlaces_83 (by decide +kernel) ?_
        refine z_callSI (wa := []) (wc := (wC y o a64 S64 tb st)) (wb := []) (As := [.ref (o 0), .int (iZ (-1)), .int (iZ 999)]) (rest := []) ⟨mx, mb, mml, mo, mts⟩ hK hA hE (fun sz => c_L_setting l hl0 D sz y o a64 S64 tb st (-1) 999 (by decide) (by decide) hT64) (vx_cwSW 3 mts gL_refusesPlaces_L_setting rfl rfl rfl (by decide +kernel) ⟨Nat.le_of_ble_eq_true rfl, Nat.le_of_ble_eq_true rfl⟩) (List.append_nil _).symm rfl rfl (Nat.le_of_ble_eq_true rfl) ⟨Nat.le_of_ble_eq_true rfl, Nat.le_of_ble_eq_true rfl⟩ dL_refusesPlaces_86 (fun r86 u86 hu86 => ?_)
        rw [List.nil_append, List.append_nil]
        obtain ⟨a86, S86⟩ := u86
        obtain ⟨hr, hT86⟩ := hu86
        replace hT86 : Tie (setS st (-1) 999) S86 := hT86
        obtain rfl : r86 = iZ (-3001) := hr.trans (congrArg iZ (rf_set1 st (-1) 999 (by decide)).1)
        show Gz pp l ee ({ frames := 9, cells := 60, slots := 360, locals := 159 } : Room) ss mm args below meth cd 5 23 138 Q (Zw D vwCl (va_A wst sz) ss (wC y o a86 S86 tb (setS st (-1) 999))) 89 [(4, .int (iZ (-1))), (3, .int (iZ (-1))), (2, .int (iZ (-1))), (1, .int (iZ 1)), (0, .ref (o 0))] [.int (iZ (-3001))]
        rw [(rf_set1 st (-1) 999 (by decide)).2]
        rw [(rf_set1 st (-1) 999 (by decide)).2] at hT86
        refine z_sipush mx mb dL_refusesPlaces_89 (by decide +kernel) ?_
        refine z_icmp_ne (tgt := 205) mx mb (by decide) (by decide) dL_refusesPlaces_92 (by decide) (fun c92 => absurd c92 (by decide)) (fun _ => ?_)
        refine z_aload_n mx mb dL_refusesPlaces_95 rfl 4 rfl ?_
        refine z_iload_n mx mb dL_refusesPlaces_96 rfl 2 rfl ?_
        refine z_bipush mx mb dL_refusesPlaces_97 (by decide +kernel) ?_
        refine z_callSI (wa := []) (wc := (wC y o a86 S86 tb st)) (wb := []) (As := [.ref (o 0), .int (iZ (-1)), .int (iZ 99)]) (rest := []) ⟨mx, mb, mml, mo, mts⟩ hK hA hE (fun sz => c_L_heighten l hl0 D sz y o a86 S86 tb st (-1) 99 (by decide) (by decide) hT86) (vx_cwSW 3 mts gL_refusesPlaces_L_heighten rfl rfl rfl (by decide +kernel) ⟨Nat.le_of_ble_eq_true rfl, Nat.le_of_ble_eq_true rfl⟩) (List.append_nil _).symm rfl rfl (Nat.le_of_ble_eq_true rfl) ⟨Nat.le_of_ble_eq_true rfl, Nat.le_of_ble_eq_true rfl⟩ dL_refusesPlaces_99 (fun r99 u99 hu99 => ?_)
        rw [List.nil_append, List.append_nil]
        obtain ⟨a99, S99⟩ := u99
        obtain ⟨hr, hT99⟩ := hu99
        replace hT99 : Tie (hgtS st (-1) 99) S99 := hT99
        obtain rfl : r99 = iZ (-3001) := hr.trans (congrArg iZ (rf_hgt1 st (-1) 99 (by omega)).1)
        show Gz pp l ee ({ frames := 9, cells := 60, slots := 360, locals := 159 } : Room) ss mm args below meth cd 5 24 144 Q (Zw D vwCl (va_A wst sz) ss (wC y o a99 S99 tb (hgtS st (-1) 99))) 102 [(4, .int (iZ (-1))), (3, .int (iZ (-1))), (2, .int (iZ (-1))), (1, .int (iZ 1)), (0, .ref (o 0))] [.int (iZ (-3001))]
        rw [(rf_hgt1 st (-1) 99 (by omega)).2]
        rw [(rf_hgt1 st (-1) 99 (by omega)).2] at hT99
        refine z_sipush mx mb dL_refusesPlaces_102 (by decide +kernel) ?_
        refine z_icmp_ne (tgt := 205) mx mb (by decide) (by decide) dL_refusesPlaces_105 (by decide) (fun c105 => absurd c105 (by decide)) (fun _ => ?_)
        refine z_aload_n mx mb dL_refusesPlaces_108 rfl 4 rfl ?_
        refine z_iload mx mb dL_refusesPlaces_109 0 rfl ?_
        refine z_bipush mx mb dL_refusesPlaces_111 (by decide +kernel) ?_
        refine z_callSI (wa := []) (wc := (wC y o a99 S99 tb st)) (wb := []) (As := [.ref (o 0), .int (iZ (-1)), .int (iZ 99)]) (rest := []) ⟨mx, mb, mml, mo, mts⟩ hK hA hE (fun sz => c_L_trainBy l hl0 D sz y o a99 S99 tb st (-1) 99 (by decide) (by decide) hT99) (vx_cwSW 3 mts gL_refusesPlaces_L_trainBy rfl rfl rfl (by decide +kernel) ⟨Nat.le_of_ble_eq_true rfl, Nat.le_of_ble_eq_true rfl⟩) (List.append_nil _).symm rfl rfl (Nat.le_of_ble_eq_true rfl) ⟨Nat.le_of_ble_eq_true rfl, Nat.le_of_ble_eq_true rfl⟩ dL_refusesPlaces_113 (fun r113 u113 hu113 => ?_)
        rw [List.nil_append, List.append_nil]
        obtain ⟨a113, S113⟩ := u113
        obtain ⟨hr, hT113⟩ := hu113
        replace hT113 : Tie st S113 := hT113
        obtain rfl : r113 = iZ (-3001) := hr.trans (congrArg iZ (rf_trn1 st (-1) 99 (by omega)))
        show Gz pp l ee ({ frames := 9, cells := 60, slots := 360, locals := 159 } : Room) ss mm args below meth cd 5 25 150 Q (Zw D vwCl (va_A wst sz) ss (wC y o a113 S113 tb st)) 116 [(4, .int (iZ (-1))), (3, .int (iZ (-1))), (2, .int (iZ (-1))), (1, .int (iZ 1)), (0, .ref (o 0))] [.int (iZ (-3001))]
        refine z_sipush mx mb dL_refusesPlaces_116 (by decide +kernel) ?_
        refine z_icmp_ne (tgt := 205) mx mb (by decide) (by decide) dL_refusesPlaces_119 (by decide) (fun c119 => absurd c119 (by decide)) (fun _ => ?_)
        refine z_aload_n mx mb dL_refusesPlaces_122 rfl 4 rfl ?_
        refine z_iload_n mx mb dL_refusesPlaces_123 rfl 2 rfl ?_
        refine z_bipush mx mb dL_refusesPlaces_124 (by decide +kernel) ?_
        refine z_callSI (wa := []) (wc := (wC y o a113 S113 tb st)) (wb := []) (As := [.ref (o 0), .int (iZ (-1)), .int (iZ 99)]) (rest := []) ⟨mx, mb, mml, mo, mts⟩ hK hA hE (fun sz => c_L_cellBy l hl0 D sz y o a113 S113 tb st (-1) 99 (by decide) (by decide) hT113) (vx_cwSW 3 mts gL_refusesPlaces_L_cellBy rfl rfl rfl (by decide +kernel) ⟨Nat.le_of_ble_eq_true rfl, Nat.le_of_ble_eq_true rfl⟩) (List.append_nil _).symm rfl rfl (Nat.le_of_ble_eq_true rfl) ⟨Nat.le_of_ble_eq_true rfl, Nat.le_of_ble_eq_true rfl⟩ dL_refusesPlaces_126 (fun r126 u126 hu126 => ?_)
        rw [List.nil_append, List.append_nil]
        obtain ⟨a126, S126⟩ := u126
        obtain ⟨hr, hT126⟩ := hu126
        replace hT126 : Tie st S126 := hT126
        obtain rfl : r126 = iZ (-3001) := hr.trans (congrArg iZ (rf_cel1 st (-1) 99 (by omega)))
        show Gz pp l ee ({ frames := 9, cells := 60, slots := 360, locals := 159 } : Room) ss mm args below meth cd 5 26 156 Q (Zw D vwCl (va_A wst sz) ss (wC y o a126 S126 tb st)) 129 [(4, .int (iZ (-1))), (3, .int (iZ (-1))), (2, .int (iZ (-1))), (1, .int (iZ 1)), (0, .ref (o 0))] [.int (iZ (-3001))]
        refine z_sipush mx mb dL_refusesPlaces_129 (by decide +kernel) ?_
        refine z_icmp_ne (tgt := 205) mx mb (by decide) (by decide) dL_refusesPlaces_132 (by decide) (fun c132 => absurd c132 (by decide)) (fun _ => ?_)
        refine z_aload_n mx mb dL_refusesPlaces_135 rfl 4 rfl ?_
        refine z_iload_n mx mb dL_refusesPlaces_136 rfl 1 rfl ?_
        refine z_bipush mx mb dL_refusesPlaces_137 (by decide +kernel) ?_
        refine z_callSI (wa := []) (wc := (wC y o a126 S126 tb st)) (wb := []) (As := [.ref (o 0), .int (iZ (-1)), .int (iZ 99)]) (rest := []) ⟨mx, mb, mml, mo, mts⟩ hK hA hE (fun sz => c_L_blockBy l hl0 D sz y o a126 S126 tb st (-1) 99 (by decide) (by decide) hT126) (vx_cwSW 3 mts gL_refusesPlaces_L_blockBy rfl rfl rfl (by decide +kernel) ⟨Nat.le_of_ble_eq_true rfl, Nat.le_of_ble_eq_true rfl⟩) (List.append_nil _).symm rfl rfl (Nat.le_of_ble_eq_true rfl) ⟨Nat.le_of_ble_eq_true rfl, Nat.le_of_ble_eq_true rfl⟩ dL_refusesPlaces_139 (fun r139 u139 hu139 => ?_)
        rw [List.nil_append, List.append_nil]
        obtain ⟨a139, S139⟩ := u139
        obtain ⟨hr, hT139⟩ := hu139
        replace hT139 : Tie st S139 := hT139
        obtain rfl : r139 = iZ (-3001) := hr.trans (congrArg iZ (rf_blk1 st (-1) 99 (by omega)))
        show Gz pp l ee ({ frames := 9, cells := 60, slots := 360, locals := 159 } : Room) ss mm args below meth cd 5 27 162 Q (Zw D vwCl (va_A wst sz) ss (wC y o a139 S139 tb st)) 142 [(4, .int (iZ (-1))), (3, .int (iZ (-1))), (2, .int (iZ (-1))), (1, .int (iZ 1)), (0, .ref (o 0))] [.int (iZ (-3001))]
        refine z_sipush mx mb dL_refusesPlaces_142 (by decide +kernel) ?_
        refine z_icmp_ne (tgt := 205) mx mb (by decide) (by decide) dL_refusesPlaces_145 (by decide) (fun c145 => absurd c145 (by decide)) (fun _ => ?_)
        refine z_aload_n mx mb dL_refusesPlaces_148 rfl 4 rfl ?_
        refine z_iload mx mb dL_refusesPlaces_149 0 rfl ?_
        refine z_callSI (wa := []) (wc := (wC y o a139 S139 tb st)) (wb := []) (As := [.ref (o 0), .int (iZ (-1))]) (rest := []) ⟨mx, mb, mml, mo, mts⟩ hK hA hE (fun sz => c_L_reason l hl0 D sz y o a139 S139 tb st (-1) (by decide) hT139) (vx_cwSW 2 mts gL_refusesPlaces_L_reason rfl rfl rfl (by decide +kernel) ⟨Nat.le_of_ble_eq_true rfl, Nat.le_of_ble_eq_true rfl⟩) (List.append_nil _).symm rfl rfl (Nat.le_of_ble_eq_true rfl) ⟨Nat.le_of_ble_eq_true rfl, Nat.le_of_ble_eq_true rfl⟩ dL_refusesPlaces_151 (fun r151 u151 hu151 => ?_)
        rw [List.nil_append, List.append_nil]
        obtain ⟨a151, S151⟩ := u151
        obtain ⟨hr, hT151⟩ := hu151
        replace hT151 : Tie st S151 := hT151
        obtain rfl : r151 = iZ (-3001) := hr.trans (congrArg iZ (rf_why st (-1) (by omega)))
        show Gz pp l ee ({ frames := 9, cells := 60, slots := 360, locals := 159 } : Room) ss mm args below meth cd 5 28 168 Q (Zw D vwCl (va_A wst sz) ss (wC y o a151 S151 tb st)) 154 [(4, .int (iZ (-1))), (3, .int (iZ (-1))), (2, .int (iZ (-1))), (1, .int (iZ 1)), (0, .ref (o 0))] [.int (iZ (-3001))]
        refine z_sipush mx mb dL_refusesPlaces_154 (by decide +kernel) ?_
        refine z_icmp_ne (tgt := 205) mx mb (by decide) (by decide) dL_refusesPlaces_157 (by decide) (fun c157 => absurd c157 (by decide)) (fun _ => ?_)
        refine z_aload_n mx mb dL_refusesPlaces_160 rfl 4 rfl ?_
        refine z_iload mx mb dL_refusesPlaces_161 0 rfl ?_
        refine z_callSI (wa := []) (wc := (wC y o a151 S151 tb st)) (wb := []) (As := [.ref (o 0), .int (iZ (-1))]) (rest := []) ⟨mx, mb, mml, mo, mts⟩ hK hA hE (fun sz => c_L_toStation l hl0 D sz y o a151 S151 tb st (-1) (by decide) hT151) (vx_cwSW 2 mts gL_refusesPlaces_L_toStation rfl rfl rfl (by decide +kernel) ⟨Nat.le_of_ble_eq_true rfl, Nat.le_of_ble_eq_true rfl⟩) (List.append_nil _).symm rfl rfl (Nat.le_of_ble_eq_true rfl) ⟨Nat.le_of_ble_eq_true rfl, Nat.le_of_ble_eq_true rfl⟩ dL_refusesPlaces_163 (fun r163 u163 hu163 => ?_)
        rw [List.nil_append, List.append_nil]
        obtain ⟨a163, S163⟩ := u163
        obtain ⟨hr, hT163⟩ := hu163
        replace hT163 : Tie st S163 := hT163
        obtain rfl : r163 = iZ (-3001) := hr.trans (congrArg iZ (rf_tos st (-1) (by omega)))
        show Gz pp l ee ({ frames := 9, cells := 60, slots := 360, locals := 159 } : Room) ss mm args below meth cd 5 29 174 Q (Zw D vwCl (va_A wst sz) ss (wC y o a163 S163 tb st)) 166 [(4, .int (iZ (-1))), (3, .int (iZ (-1))), (2, .int (iZ (-1))), (1, .int (iZ 1)), (0, .ref (o 0))] [.int (iZ (-3001))]
        refine z_sipush mx mb dL_refusesPlaces_166 (by decide +kernel) ?_
        refine z_icmp_ne (tgt := 205) mx mb (by decide) (by decide) dL_refusesPlaces_169 (by decide) (fun c169 => absurd c169 (by decide)) (fun _ => ?_)
        refine z_aload_n mx mb dL_refusesPlaces_172 rfl 4 rfl ?_
        refine z_iload_n mx mb dL_refusesPlaces_173 rfl 2 rfl ?_
        refine z_callSI (wa := []) (wc := (wC y o a163 S163 tb st)) (wb := []) (As := [.ref (o 0), .int (iZ (-1))]) (rest := []) ⟨mx, mb, mml, mo, mts⟩ hK hA hE (fun sz => c_L_least l hl0 D sz y o a163 S163 tb st (-1) (by decide) hT163) (vx_cwSW 2 mts gL_refusesPlaces_L_least rfl rfl rfl (by decide +kernel) ⟨Nat.le_of_ble_eq_true rfl, Nat.le_of_ble_eq_true rfl⟩) (List.append_nil _).symm rfl rfl (Nat.le_of_ble_eq_true rfl) ⟨Nat.le_of_ble_eq_true rfl, Nat.le_of_ble_eq_true rfl⟩ dL_refusesPlaces_174 (fun r174 u174 hu174 => ?_)
        rw [List.nil_append, List.append_nil]
        obtain ⟨a174, S174⟩ := u174
        obtain ⟨hr, hT174⟩ := hu174
        replace hT174 : Tie st S174 := hT174
        obtain rfl : r174 = iZ (-3001) := hr.trans (congrArg iZ (rf_lst st (-1) (by omega)))
        show Gz pp l ee ({ frames := 9, cells := 60, slots := 360, locals := 159 } : Room) ss mm args below meth cd 5 30 180 Q (Zw D vwCl (va_A wst sz) ss (wC y o a174 S174 tb st)) 177 [(4, .int (iZ (-1))), (3, .int (iZ (-1))), (2, .int (iZ (-1))), (1, .int (iZ 1)), (0, .ref (o 0))] [.int (iZ (-3001))]
        refine z_sipush mx mb dL_refusesPlaces_177 (by decide +kernel) ?_
        refine z_icmp_ne (tgt := 205) mx mb (by decide) (by decide) dL_refusesPlaces_180 (by decide) (fun c180 => absurd c180 (by decide)) (fun _ => ?_)
        refine z_aload_n mx mb dL_refusesPlaces_183 rfl 4 rfl ?_
        refine z_iload_n mx mb dL_refusesPlaces_184 rfl 3 rfl ?_
        refine z_if_ne (tgt := 193) mx mb (by decide) dL_refusesPlaces_185 (by decide) (fun _ => ?_) (fun c185 => absurd c185 (by decide))
        refine z_iconst mx mb dL_refusesPlaces_193 ?_
        refine z_bipush mx mb dL_refusesPlaces_194 (by decide +kernel) ?_
        refine z_callSI (wa := []) (wc := (wC y o a174 S174 tb st)) (wb := []) (As := [.ref (o 0), .int (iZ (-1)), .int (iZ 9)]) (rest := []) ⟨mx, mb, mml, mo, mts⟩ hK hA hE (fun sz => c_L_sent l hl0 D sz y o a174 S174 tb st (-1) 9 (by decide) (by decide) hT174) (vx_cwSW 3 mts gL_refusesPlaces_L_sent rfl rfl rfl (by decide +kernel) ⟨Nat.le_of_ble_eq_true rfl, Nat.le_of_ble_eq_true rfl⟩) (List.append_nil _).symm rfl rfl (Nat.le_of_ble_eq_true rfl) ⟨Nat.le_of_ble_eq_true rfl, Nat.le_of_ble_eq_true rfl⟩ dL_refusesPlaces_196 (fun r196 u196 hu196 => ?_)
        rw [List.nil_append, List.append_nil]
        obtain ⟨a196, S196⟩ := u196
        obtain ⟨hr, hT196⟩ := hu196
        replace hT196 : Tie st S196 := hT196
        obtain rfl : r196 = iZ (-3001) := hr.trans (congrArg iZ (rf_snt1 st (-1) 9 (by omega)))
        show Gz pp l ee ({ frames := 9, cells := 60, slots := 360, locals := 159 } : Room) ss mm args below meth cd 5 31 186 Q (Zw D vwCl (va_A wst sz) ss (wC y o a196 S196 tb st)) 199 [(4, .int (iZ (-1))), (3, .int (iZ (-1))), (2, .int (iZ (-1))), (1, .int (iZ 1)), (0, .ref (o 0))] [.int (iZ (-3001))]
        refine z_sipush mx mb dL_refusesPlaces_199 (by decide +kernel) ?_
        refine z_icmp_eq (tgt := 207) mx mb (by decide) (by decide) dL_refusesPlaces_202 (by decide) (fun _ => ?_) (fun c202 => absurd c202 (by decide))
        refine z_aload_n mx mb dL_refusesPlaces_207 rfl 4 rfl ?_
        refine z_iconst mx mb dL_refusesPlaces_208 ?_
        refine z_iload_n mx mb dL_refusesPlaces_209 rfl 3 rfl ?_
        refine z_if_ne (tgt := 217) mx mb (by decide) dL_refusesPlaces_210 (by decide) (fun _ => ?_) (fun c210 => absurd c210 (by decide))
        refine z_iconst mx mb dL_refusesPlaces_217 ?_
        refine z_callSI (wa := []) (wc := (wC y o a196 S196 tb st)) (wb := []) (As := [.ref (o 0), .int (iZ 0), .int (iZ (-1))]) (rest := []) ⟨mx, mb, mml, mo, mts⟩ hK hA hE (fun sz => c_L_cellBy l hl0 D sz y o a196 S196 tb st 0 (-1) (by decide) (by decide) hT196) (vx_cwSW 3 mts gL_refusesPlaces_L_cellBy rfl rfl rfl (by decide +kernel) ⟨Nat.le_of_ble_eq_true rfl, Nat.le_of_ble_eq_true rfl⟩) (List.append_nil _).symm rfl rfl (Nat.le_of_ble_eq_true rfl) ⟨Nat.le_of_ble_eq_true rfl, Nat.le_of_ble_eq_true rfl⟩ dL_refusesPlaces_218 (fun r218 u218 hu218 => ?_)
        rw [List.nil_append, List.append_nil]
        obtain ⟨a218, S218⟩ := u218
        obtain ⟨hr, hT218⟩ := hu218
        replace hT218 : Tie st S218 := hT218
        obtain rfl : r218 = iZ (-3002) := hr.trans (congrArg iZ (rf_cel2 st 0 (-1) (by omega) (by omega)))
        show Gz pp l ee ({ frames := 9, cells := 60, slots := 360, locals := 159 } : Room) ss mm args below meth cd 5 32 192 Q (Zw D vwCl (va_A wst sz) ss (wC y o a218 S218 tb st)) 221 [(4, .int (iZ (-1))), (3, .int (iZ (-1))), (2, .int (iZ (-1))), (1, .int (iZ 1)), (0, .ref (o 0))] [.int (iZ (-3002))]
        refine z_sipush mx mb dL_refusesPlaces_221 (by decide +kernel) ?_
        refine z_icmp_ne (tgt := 305) mx mb (by decide) (by decide) dL_refusesPlaces_224 (by decide) (fun c224 => absurd c224 (by decide)) (fun _ => ?_)
        refine z_aload_n mx mb dL_refusesPlaces_227 rfl 4 rfl ?_
        refine z_iconst mx mb dL_refusesPlaces_228 ?_
        refine z_iload_n mx mb dL_refusesPlaces_229 rfl 3 rfl ?_
        refine z_if_ne (tgt := 237) mx mb (by decide) dL_refusesPlaces_230 (by decide) (fun _ => ?_) (fun c230 => absurd c230 (by decide))
        refine z_iconst mx mb dL_refusesPlaces_237 ?_
        refine z_callSI (wa := []) (wc := (wC y o a218 S218 tb st)) (wb := []) (As := [.ref (o 0), .int (iZ 0), .int (iZ (-1))]) (rest := []) ⟨mx, mb, mml, mo, mts⟩ hK hA hE (fun sz => c_L_blockBy l hl0 D sz y o a218 S218 tb st 0 (-1) (by decide) (by decide) hT218) (vx_cwSW 3 mts gL_refusesPlaces_L_blockBy rfl rfl rfl (by decide +kernel) ⟨Nat.le_of_ble_eq_true rfl, Nat.le_of_ble_eq_true rfl⟩) (List.append_nil _).symm rfl rfl (Nat.le_of_ble_eq_true rfl) ⟨Nat.le_of_ble_eq_true rfl, Nat.le_of_ble_eq_true rfl⟩ dL_refusesPlaces_238 (fun r238 u238 hu238 => ?_)
        rw [List.nil_append, List.append_nil]
        obtain ⟨a238, S238⟩ := u238
        obtain ⟨hr, hT238⟩ := hu238
        replace hT238 : Tie st S238 := hT238
        obtain rfl : r238 = iZ (-3002) := hr.trans (congrArg iZ (rf_blk2 st 0 (-1) (by omega) (by omega)))
        show Gz pp l ee ({ frames := 9, cells := 60, slots := 360, locals := 159 } : Room) ss mm args below meth cd 5 33 198 Q (Zw D vwCl (va_A wst sz) ss (wC y o a238 S238 tb st)) 241 [(4, .int (iZ (-1))), (3, .int (iZ (-1))), (2, .int (iZ (-1))), (1, .int (iZ 1)), (0, .ref (o 0))] [.int (iZ (-3002))]
        refine z_sipush mx mb dL_refusesPlaces_241 (by decide +kernel) ?_
        refine z_icmp_ne (tgt := 305) mx mb (by decide) (by decide) dL_refusesPlaces_244 (by decide) (fun c244 => absurd c244 (by decide)) (fun _ => ?_)
        refine z_aload_n mx mb dL_refusesPlaces_247 rfl 4 rfl ?_
        refine z_iconst mx mb dL_refusesPlaces_248 ?_
        refine z_callSI (wa := []) (wc := (wC y o a238 S238 tb st)) (wb := []) (As := [.ref (o 0), .int (iZ 2)]) (rest := []) ⟨mx, mb, mml, mo, mts⟩ hK hA hE (fun sz => c_L_all l hl0 D sz y o a238 S238 tb st 2 (by decide) hT238) (vx_cwSW 2 mts gL_refusesPlaces_L_all rfl rfl rfl (by decide +kernel) ⟨Nat.le_of_ble_eq_true rfl, Nat.le_of_ble_eq_true rfl⟩) (List.append_nil _).symm rfl rfl (Nat.le_of_ble_eq_true rfl) ⟨Nat.le_of_ble_eq_true rfl, Nat.le_of_ble_eq_true rfl⟩ dL_refusesPlaces_249 (fun r249 u249 hu249 => ?_)
        rw [List.nil_append, List.append_nil]
        obtain ⟨a249, S249⟩ := u249
        obtain ⟨hr, hT249⟩ := hu249
        replace hT249 : Tie st S249 := hT249
        obtain rfl : r249 = iZ (st.1 2) := hr.trans (congrArg iZ (show allV st 2 = st.1 2 from by exact all_lo (by omega)))
        show Gz pp l ee ({ frames := 9, cells := 60, slots := 360, locals := 159 } : Room) ss mm args below meth cd 5 34 204 Q (Zw D vwCl (va_A wst sz) ss (wC y o a249 S249 tb st)) 252 [(4, .int (iZ (-1))), (3, .int (iZ (-1))), (2, .int (iZ (-1))), (1, .int (iZ 1)), (0, .ref (o 0))] [.int (iZ (st.1 2))]
        have jn276 : ∀ (a8 : Nat → Nat → Nat) (S8 : Nat → Nat → Int → Int), (Tie st S8) → Gz pp l ee ({ frames := 9, cells := 60, slots := 360, locals := 159 } : Room) ss mm args below meth cd 5 35 210 Q (Zw D vwCl (va_A wst sz) ss (wC y o a8 S8 tb st)) 276 [(4, .int (iZ (-1))), (3, .int (iZ (-1))), (2, .int (iZ (-1))), (1, .int (iZ 1)), (0, .ref (o 0))] [] := by
          intro a8 S8 hT8
          refine z_aload_n mx mb dL_refusesPlaces_276 rfl 4 rfl ?_
          refine z_iconst mx mb dL_refusesPlaces_277 ?_
          refine z_iconst mx mb dL_refusesPlaces_278 ?_
          refine z_callSI (wa := []) (wc := (wC y o a8 S8 tb st)) (wb := []) (As := [.ref (o 0), .int (iZ 0), .int (iZ 0)]) (rest := []) ⟨mx, mb, mml, mo, mts⟩ hK hA hE (fun sz => c_L_sent l hl0 D sz y o a8 S8 tb st 0 0 (by decide) (by decide) hT8) (vx_cwSW 3 mts gL_refusesPlaces_L_sent rfl rfl rfl (by decide +kernel) ⟨Nat.le_of_ble_eq_true rfl, Nat.le_of_ble_eq_true rfl⟩) (List.append_nil _).symm rfl rfl (Nat.le_of_ble_eq_true rfl) ⟨Nat.le_of_ble_eq_true rfl, Nat.le_of_ble_eq_true rfl⟩ dL_refusesPlaces_279 (fun r279 u279 hu279 => ?_)
          rw [List.nil_append, List.append_nil]
          obtain ⟨a279, S279⟩ := u279
          obtain ⟨hr, hT279⟩ := hu279
          replace hT279 : Tie st S279 := hT279
          obtain rfl : r279 = iZ (sntV st 0 0) := hr
          show Gz pp l ee ({ frames := 9, cells := 60, slots := 360, locals := 159 } : Room) ss mm args below meth cd 5 36 216 Q (Zw D vwCl (va_A wst sz) ss (wC y o a279 S279 tb st)) 282 [(4, .int (iZ (-1))), (3, .int (iZ (-1))), (2, .int (iZ (-1))), (1, .int (iZ 1)), (0, .ref (o 0))] [.int (iZ (sntV st 0 0))]
          have jn307 : ∀ (a8 : Nat → Nat → Nat) (S8 : Nat → Nat → Int → Int), (Tie st S8) → Gz pp l ee ({ frames := 9, cells := 60, slots := 360, locals := 159 } : Room) ss mm args below meth cd 5 37 222 Q (Zw D vwCl (va_A wst sz) ss (wC y o a8 S8 tb st)) 307 [(4, .int (iZ (-1))), (3, .int (iZ (-1))), (2, .int (iZ (-1))), (1, .int (iZ 1)), (0, .ref (o 0))] [] := by
            intro a8 S8 hT8
            refine z_iinc mx mb dL_refusesPlaces_307 3 rfl (by decide) [(1, .int (iZ 2)), (4, .int (iZ (-1))), (3, .int (iZ (-1))), (2, .int (iZ (-1))), (0, .ref (o 0))] (by rfl) ?_
            refine z_goto (tgt := 2) mx mb dL_refusesPlaces_310 (by decide) ?_
            refine z_iload_n mx mb dL_refusesPlaces_2 rfl 0 rfl ?_
            refine z_iconst mx mb dL_refusesPlaces_3 ?_
            refine z_icmp_ge (tgt := 313) mx mb (by decide) (by decide) dL_refusesPlaces_4 (by decide) (fun _ => ?_) (fun c4 => absurd c4 (by decide))
            refine z_iconst mx mb dL_refusesPlaces_313 ?_
            refine z_widen (k1 := 60) (n1 := 360) (Nat.le_of_ble_eq_true rfl) (Nat.le_of_ble_eq_true rfl) ?_
            rw [hQ]
            exact z_retZ mx mb mr mlk hK (by decide) (a8, S8) (by exact ⟨rfl, hT8⟩) rfl dL_refusesPlaces_314
          have sr := snt_rng (i := 0) lp
          refine z_if_lt (tgt := 307) mx mb (by omega) dL_refusesPlaces_282 (by decide) (fun c282 => ?_) (fun c282 => ?_)
          · skip
            refine z_widen (k1 := 37) (n1 := 222) (Nat.le_of_ble_eq_true rfl) (Nat.le_of_ble_eq_true rfl) ?_
            exact jn307 a279 S279 (by exact hT279)
          · skip
            refine z_aload_n mx mb dL_refusesPlaces_285 rfl 4 rfl ?_
            refine z_iconst mx mb dL_refusesPlaces_286 ?_
            refine z_iload_n mx mb dL_refusesPlaces_287 rfl 3 rfl ?_
            refine z_if_ne (tgt := 295) mx mb (by decide) dL_refusesPlaces_288 (by decide) (fun _ => ?_) (fun c288 => absurd c288 (by decide))
            refine z_iconst mx mb dL_refusesPlaces_295 ?_
            refine z_callSI (wa := []) (wc := (wC y o a279 S279 tb st)) (wb := []) (As := [.ref (o 0), .int (iZ 0), .int (iZ (-1))]) (rest := []) ⟨mx, mb, mml, mo, mts⟩ hK hA hE (fun sz => c_L_sent l hl0 D sz y o a279 S279 tb st 0 (-1) (by decide) (by decide) hT279) (vx_cwSW 3 mts gL_refusesPlaces_L_sent rfl rfl rfl (by decide +kernel) ⟨Nat.le_of_ble_eq_true rfl, Nat.le_of_ble_eq_true rfl⟩) (List.append_nil _).symm rfl rfl (Nat.le_of_ble_eq_true rfl) ⟨Nat.le_of_ble_eq_true rfl, Nat.le_of_ble_eq_true rfl⟩ dL_refusesPlaces_296 (fun r296 u296 hu296 => ?_)
            rw [List.nil_append, List.append_nil]
            obtain ⟨a296, S296⟩ := u296
            obtain ⟨hr, hT296⟩ := hu296
            replace hT296 : Tie st S296 := hT296
            obtain rfl : r296 = iZ (-3002) := hr.trans (congrArg iZ (rf_snt2 st 0 (-1) (by omega) (by omega)))
            show Gz pp l ee ({ frames := 9, cells := 60, slots := 360, locals := 159 } : Room) ss mm args below meth cd 5 37 222 Q (Zw D vwCl (va_A wst sz) ss (wC y o a296 S296 tb st)) 299 [(4, .int (iZ (-1))), (3, .int (iZ (-1))), (2, .int (iZ (-1))), (1, .int (iZ 1)), (0, .ref (o 0))] [.int (iZ (-3002))]
            refine z_sipush mx mb dL_refusesPlaces_299 (by decide +kernel) ?_
            refine z_icmp_eq (tgt := 307) mx mb (by decide) (by decide) dL_refusesPlaces_302 (by decide) (fun _ => ?_) (fun c302 => absurd c302 (by decide))
            exact jn307 a296 S296 (by exact hT296)
        refine z_if_le (tgt := 276) mx mb (by omega) dL_refusesPlaces_252 (by decide) (fun c252 => ?_) (fun c252 => ?_)
        · skip
          refine z_widen (k1 := 35) (n1 := 210) (Nat.le_of_ble_eq_true rfl) (Nat.le_of_ble_eq_true rfl) ?_
          exact jn276 a249 S249 (by exact hT249)
        · skip
          refine z_aload_n mx mb dL_refusesPlaces_255 rfl 4 rfl ?_
          refine z_iconst mx mb dL_refusesPlaces_256 ?_
          refine z_iload_n mx mb dL_refusesPlaces_257 rfl 3 rfl ?_
          refine z_if_ne (tgt := 266) mx mb (by decide) dL_refusesPlaces_258 (by decide) (fun _ => ?_) (fun c258 => absurd c258 (by decide))
          refine z_iconst mx mb dL_refusesPlaces_266 ?_
          refine z_callSI (wa := []) (wc := (wC y o a249 S249 tb st)) (wb := []) (As := [.ref (o 0), .int (iZ 0), .int (iZ (-1))]) (rest := []) ⟨mx, mb, mml, mo, mts⟩ hK hA hE (fun sz => c_L_trainBy l hl0 D sz y o a249 S249 tb st 0 (-1) (by decide) (by decide) hT249) (vx_cwSW 3 mts gL_refusesPlaces_L_trainBy rfl rfl rfl (by decide +kernel) ⟨Nat.le_of_ble_eq_true rfl, Nat.le_of_ble_eq_true rfl⟩) (List.append_nil _).symm rfl rfl (Nat.le_of_ble_eq_true rfl) ⟨Nat.le_of_ble_eq_true rfl, Nat.le_of_ble_eq_true rfl⟩ dL_refusesPlaces_267 (fun r267 u267 hu267 => ?_)
          rw [List.nil_append, List.append_nil]
          obtain ⟨a267, S267⟩ := u267
          obtain ⟨hr, hT267⟩ := hu267
          replace hT267 : Tie st S267 := hT267
          obtain rfl : r267 = iZ (-3002) := hr.trans (congrArg iZ (rf_trn2 st 0 (-1) (by omega) (by omega)))
          show Gz pp l ee ({ frames := 9, cells := 60, slots := 360, locals := 159 } : Room) ss mm args below meth cd 5 35 210 Q (Zw D vwCl (va_A wst sz) ss (wC y o a267 S267 tb st)) 270 [(4, .int (iZ (-1))), (3, .int (iZ (-1))), (2, .int (iZ (-1))), (1, .int (iZ 1)), (0, .ref (o 0))] [.int (iZ (-3002))]
          refine z_sipush mx mb dL_refusesPlaces_270 (by decide +kernel) ?_
          refine z_icmp_ne (tgt := 305) mx mb (by decide) (by decide) dL_refusesPlaces_273 (by decide) (fun c273 => absurd c273 (by decide)) (fun _ => ?_)
          exact jn276 a267 S267 (by exact hT267)
      have sr := snt_rng (i := 0) lp
      refine z_if_lt (tgt := 307) mx mb (by omega) dL_refusesPlaces_282 (by decide) (fun c282 => ?_) (fun c282 => ?_)
      · skip
        refine z_widen (k1 := 20) (n1 := 120) (Nat.le_of_ble_eq_true rfl) (Nat.le_of_ble_eq_true rfl) ?_
        exact jn307 a279 S279 (by exact hT279)
      · skip
        refine z_aload_n mx mb dL_refusesPlaces_285 rfl 4 rfl ?_
        refine z_iconst mx mb dL_refusesPlaces_286 ?_
        refine z_iload_n mx mb dL_refusesPlaces_287 rfl 3 rfl ?_
        refine z_if_ne (tgt := 295) mx mb (by decide) dL_refusesPlaces_288 (by decide) (fun c288 => absurd c288 (by decide)) (fun _ => ?_)
        refine z_iconst mx mb dL_refusesPlaces_291 ?_
        refine z_goto (tgt := 296) mx mb dL_refusesPlaces_292 (by decide) ?_
        refine z_callSI (wa := []) (wc := (wC y o a279 S279 tb st)) (wb := []) (As := [.ref (o 0), .int (iZ 0), .int (iZ 2)]) (rest := []) ⟨mx, mb, mml, mo, mts⟩ hK hA hE (fun sz => c_L_sent l hl0 D sz y o a279 S279 tb st 0 2 (by decide) (by decide) hT279) (vx_cwSW 3 mts gL_refusesPlaces_L_sent rfl rfl rfl (by decide +kernel) ⟨Nat.le_of_ble_eq_true rfl, Nat.le_of_ble_eq_true rfl⟩) (List.append_nil _).symm rfl rfl (Nat.le_of_ble_eq_true rfl) ⟨Nat.le_of_ble_eq_true rfl, Nat.le_of_ble_eq_true rfl⟩ dL_refusesPlaces_296 (fun r296 u296 hu296 => ?_)
        rw [List.nil_append, List.append_nil]
        obtain ⟨a296, S296⟩ := u296
        obtain ⟨hr, hT296⟩ := hu296
        replace hT296 : Tie st S296 := hT296
        obtain rfl : r296 = iZ (-3002) := hr.trans (congrArg iZ (rf_snt2 st 0 2 (by omega) (by omega)))
        show Gz pp l ee ({ frames := 9, cells := 60, slots := 360, locals := 159 } : Room) ss mm args below meth cd 5 20 120 Q (Zw D vwCl (va_A wst sz) ss (wC y o a296 S296 tb st)) 299 [(4, .int (iZ (st.1 2))), (3, .int (iZ (st.1 1))), (2, .int (iZ (st.1 0))), (1, .int (iZ 0)), (0, .ref (o 0))] [.int (iZ (-3002))]
        refine z_sipush mx mb dL_refusesPlaces_299 (by decide +kernel) ?_
        refine z_icmp_eq (tgt := 307) mx mb (by decide) (by decide) dL_refusesPlaces_302 (by decide) (fun _ => ?_) (fun c302 => absurd c302 (by decide))
        exact jn307 a296 S296 (by exact hT296)
    refine z_if_le (tgt := 276) mx mb (by omega) dL_refusesPlaces_252 (by decide) (fun c252 => ?_) (fun c252 => ?_)
    · skip
      refine z_widen (k1 := 18) (n1 := 108) (Nat.le_of_ble_eq_true rfl) (Nat.le_of_ble_eq_true rfl) ?_
      exact jn276 a249 S249 (by exact hT249)
    · skip
      refine z_aload_n mx mb dL_refusesPlaces_255 rfl 4 rfl ?_
      refine z_iconst mx mb dL_refusesPlaces_256 ?_
      refine z_iload_n mx mb dL_refusesPlaces_257 rfl 3 rfl ?_
      refine z_if_ne (tgt := 266) mx mb (by decide) dL_refusesPlaces_258 (by decide) (fun c258 => absurd c258 (by decide)) (fun _ => ?_)
      refine z_bipush mx mb dL_refusesPlaces_261 (by decide +kernel) ?_
      refine z_goto (tgt := 267) mx mb dL_refusesPlaces_263 (by decide) ?_
      refine z_callSI (wa := []) (wc := (wC y o a249 S249 tb st)) (wb := []) (As := [.ref (o 0), .int (iZ 0), .int (iZ 10)]) (rest := []) ⟨mx, mb, mml, mo, mts⟩ hK hA hE (fun sz => c_L_trainBy l hl0 D sz y o a249 S249 tb st 0 10 (by decide) (by decide) hT249) (vx_cwSW 3 mts gL_refusesPlaces_L_trainBy rfl rfl rfl (by decide +kernel) ⟨Nat.le_of_ble_eq_true rfl, Nat.le_of_ble_eq_true rfl⟩) (List.append_nil _).symm rfl rfl (Nat.le_of_ble_eq_true rfl) ⟨Nat.le_of_ble_eq_true rfl, Nat.le_of_ble_eq_true rfl⟩ dL_refusesPlaces_267 (fun r267 u267 hu267 => ?_)
      rw [List.nil_append, List.append_nil]
      obtain ⟨a267, S267⟩ := u267
      obtain ⟨hr, hT267⟩ := hu267
      replace hT267 : Tie st S267 := hT267
      obtain rfl : r267 = iZ (-3002) := hr.trans (congrArg iZ (rf_trn2 st 0 10 (by omega) (by omega)))
      show Gz pp l ee ({ frames := 9, cells := 60, slots := 360, locals := 159 } : Room) ss mm args below meth cd 5 18 108 Q (Zw D vwCl (va_A wst sz) ss (wC y o a267 S267 tb st)) 270 [(4, .int (iZ (st.1 2))), (3, .int (iZ (st.1 1))), (2, .int (iZ (st.1 0))), (1, .int (iZ 0)), (0, .ref (o 0))] [.int (iZ (-3002))]
      refine z_sipush mx mb dL_refusesPlaces_270 (by decide +kernel) ?_
      refine z_icmp_ne (tgt := 305) mx mb (by decide) (by decide) dL_refusesPlaces_273 (by decide) (fun c273 => absurd c273 (by decide)) (fun _ => ?_)
      exact jn276 a267 S267 (by exact hT267)
  subst hQ
  subst hw0
  exact hstart
