set_option maxRecDepth 100000 in
set_option maxHeartbeats 8000000 in
theorem c_L_refused (l : Launch) (hl0 : l.stackTraces = false) (D : va_G) (sz : Nat) (y : Nat → ClassId) (o : Nat → Nat) (a : Nat → Nat → Nat) (S : Nat → Nat → Int → Int) (tb : Nat → Nat) (st : CSt) (hT : Tie st S) : Met l yL_refused wsL_refused ({ frames := 10, cells := 100, slots := 600, locals := 183 } : Room) (zPe D vwCl (zT y) (wC y o a S tb st) sz [.ref (o 0)]) (va_Qi (fun (r : Int32) (u : (Nat → Nat → Nat) × (Nat → Nat → Int → Int)) => r = iZ 1 ∧ Tie st u.2) (zB D vwCl (zT y) (wC y o a S tb st) sz (fun u : (Nat → Nat → Nat) × (Nat → Nat → Int → Int) => wC y o u.1 u.2 tb st)) (va_A (wC y o a S tb st) sz)) 100 600 (va_A (wC y o a S tb st) sz) := by
  refine z_headE (cc := cL_refused) (maxL := 4) (ret := (some .boolean)) [(0, .ref (o 0))] rfl (Nat.le_of_ble_eq_true rfl) (by decide +kernel) rfl ?_
  intro pp ee ss mm below meth cd mx mb mr mml mo mts mlk hK hname hsz hA hE
  generalize ([.ref (o 0)] : List Value).toArray = args at mts ⊢
  obtain ⟨wst, hw0⟩ : ∃ wst, wst = wC y o a S tb st := ⟨_, rfl⟩
  replace hE : zE (va_A wst sz) ss ss.heap := by rw [hw0]; exact hE
  replace hA : ∀ q, ss.heap.size ≤ q → va_A wst sz q := by rw [hw0]; exact hA
  obtain ⟨Q, hQ⟩ : ∃ Q, Q = MQ below (va_Qi (fun (r : Int32) (u : (Nat → Nat → Nat) × (Nat → Nat → Int → Int)) => r = iZ 1 ∧ Tie st u.2) (zB D vwCl (zT y) wst sz (fun u : (Nat → Nat → Nat) × (Nat → Nat → Int → Int) => wC y o u.1 u.2 tb st)) (va_A wst sz)) args ss 100 600 (va_A wst sz) := ⟨_, rfl⟩
  have hstart : Gz pp l ee ({ frames := 10, cells := 100, slots := 600, locals := 183 } : Room) ss mm args below meth cd 4 0 0 Q (Zw D vwCl (va_A wst sz) ss (wC y o a S tb st)) 0 [(0, .ref (o 0))] [] := by
    obtain ⟨⟨hR, hI, kp, lp⟩, hsc, hTS, hl, htx⟩ := id hT
    obtain ⟨hW, hN, hT9⟩ := (Inv_Jy hI).f
    have w0 := hW.1; have w1 := hW.2.1; have w2 := hW.2.2.1
    have n10 := hN.2.2.2.2.2.2.2
    refine z_aload_n mx mb dL_refused_0 rfl 0 rfl ?_
    refine z_callL (wa := []) (wc := (wC y o a S tb st)) (wb := []) (As := []) (rest := []) ⟨mx, mb, mml, mo, mts⟩ hK hA (fun sz => c_X4_digest l D sz y o a S tb st.2.2.2.1 st.2.2.2.2 st.2.2.1 st.1 hT.1.1 hT.1.2.1 hT.1.2.2.1) (cwV 0 mts gL_refused_X4_digest rfl rfl rfl (by decide +kernel) ⟨Nat.le_of_ble_eq_true rfl, Nat.le_of_ble_eq_true rfl⟩) (List.append_nil _).symm 0 wB_0 rfl rfl rfl rfl (Nat.le_of_ble_eq_true rfl) ⟨Nat.le_of_ble_eq_true rfl, Nat.le_of_ble_eq_true rfl⟩ dL_refused_1 (fun r1 u1 hu1 => ?_)
    rw [List.nil_append, List.append_nil]
    obtain ⟨hr, hv0⟩ := hu1
    have hT1 : Tie st u1 := tie_trial hT hv0
    obtain rfl : r1 = lZ (dg st.1 st.2.2.2.2 st.2.2.1) := hr
    show Gz pp l ee ({ frames := 10, cells := 100, slots := 600, locals := 183 } : Room) ss mm args below meth cd 4 0 0 Q (Zw D vwCl (va_A wst sz) ss (wC y o a u1 tb st)) 4 [(0, .ref (o 0))] [.long (lZ (dg st.1 st.2.2.2.2 st.2.2.1))]
    refine z_lstore_n mx mb dL_refused_4 rfl (by decide) [(1, .long (lZ (dg st.1 st.2.2.2.2 st.2.2.1))), (0, .ref (o 0))] rfl ?_
    refine z_aload_n mx mb dL_refused_5 rfl 1 rfl ?_
    refine z_callSE (wa := []) (wc := (wC y o a u1 tb st)) (wb := []) (As := [.ref (o 0)]) (rest := []) ⟨mx, mb, mml, mo, mts⟩ hK hA hE (fun sz => c_L_refusesPlaces l hl0 D sz y o a u1 tb st hT1) (cwS 1 mts gL_refused_L_refusesPlaces rfl rfl rfl (by decide +kernel) ⟨Nat.le_of_ble_eq_true rfl, Nat.le_of_ble_eq_true rfl⟩) (List.append_nil _).symm rfl rfl (Nat.le_of_ble_eq_true rfl) ⟨Nat.le_of_ble_eq_true rfl, Nat.le_of_ble_eq_true rfl⟩ dL_refused_6 (fun r6 u6 hu6 => ?_)
    rw [List.nil_append, List.append_nil]
    obtain ⟨a6, S6⟩ := u6
    obtain ⟨hr, hT6⟩ := hu6
    replace hT6 : Tie st S6 := hT6
    obtain rfl : r6 = iZ 1 := hr
    show Gz pp l ee ({ frames := 10, cells := 100, slots := 600, locals := 183 } : Room) ss mm args below meth cd 4 60 360 Q (Zw D vwCl (va_A wst sz) ss (wC y o a6 S6 tb st)) 9 [(1, .long (lZ (dg st.1 st.2.2.2.2 st.2.2.1))), (0, .ref (o 0))] [.int (iZ 1)]
    refine z_if_ne (tgt := 14) mx mb (by decide) dL_refused_9 (by decide) (fun _ => ?_) (fun c9 => absurd c9 (by decide))
    refine z_iconst mx mb dL_refused_14 ?_
    refine z_istore_n mx mb dL_refused_15 rfl (by decide) [(3, .int (iZ 0)), (1, .long (lZ (dg st.1 st.2.2.2.2 st.2.2.1))), (0, .ref (o 0))] rfl ?_
    refine z_iload_n mx mb dL_refused_16 rfl 0 rfl ?_
    refine z_iconst mx mb dL_refused_17 ?_
    refine z_icmp_ge (tgt := 218) mx mb (by decide) (by decide) dL_refused_18 (by decide) (fun c18 => absurd c18 (by decide)) (fun _ => ?_)
    refine z_aload_n mx mb dL_refused_21 rfl 2 rfl ?_
    refine z_iconst mx mb dL_refused_22 ?_
    refine z_iload_n mx mb dL_refused_23 rfl 0 rfl ?_
    refine z_if_ne (tgt := 32) mx mb (by decide) dL_refused_24 (by decide) (fun c24 => absurd c24 (by decide)) (fun _ => ?_)
    refine z_bipush mx mb dL_refused_27 (by decide +kernel) ?_
    refine z_goto (tgt := 33) mx mb dL_refused_29 (by decide) ?_
    refine z_callSI (wa := []) (wc := (wC y o a6 S6 tb st)) (wb := []) (As := [.ref (o 0), .int (iZ 0), .int (iZ 21)]) (rest := []) ⟨mx, mb, mml, mo, mts⟩ hK hA hE (fun sz => c_L_setting l hl0 D sz y o a6 S6 tb st 0 21 (by decide) (by decide) hT6) (vx_cwSW 3 mts gL_refused_L_setting rfl rfl rfl (by decide +kernel) ⟨Nat.le_of_ble_eq_true rfl, Nat.le_of_ble_eq_true rfl⟩) (List.append_nil _).symm rfl rfl (Nat.le_of_ble_eq_true rfl) ⟨Nat.le_of_ble_eq_true rfl, Nat.le_of_ble_eq_true rfl⟩ dL_refused_33 (fun r33 u33 hu33 => ?_)
    rw [List.nil_append, List.append_nil]
    obtain ⟨a33, S33⟩ := u33
    obtain ⟨hr, hT33⟩ := hu33
    replace hT33 : Tie (setS st 0 21) S33 := hT33
    obtain rfl : r33 = iZ (-3002) := hr.trans (congrArg iZ (rf_set2 st 0 21 (by decide)).1)
    show Gz pp l ee ({ frames := 10, cells := 100, slots := 600, locals := 183 } : Room) ss mm args below meth cd 4 61 366 Q (Zw D vwCl (va_A wst sz) ss (wC y o a33 S33 tb (setS st 0 21))) 36 [(3, .int (iZ 0)), (1, .long (lZ (dg st.1 st.2.2.2.2 st.2.2.1))), (0, .ref (o 0))] [.int (iZ (-3002))]
    rw [(rf_set2 st 0 21 (by decide)).2]
    rw [(rf_set2 st 0 21 (by decide)).2] at hT33
    refine z_sipush mx mb dL_refused_36 (by decide +kernel) ?_
    refine z_icmp_ne (tgt := 210) mx mb (by decide) (by decide) dL_refused_39 (by decide) (fun c39 => absurd c39 (by decide)) (fun _ => ?_)
    refine z_aload_n mx mb dL_refused_42 rfl 2 rfl ?_
    refine z_iconst mx mb dL_refused_43 ?_
    refine z_iload_n mx mb dL_refused_44 rfl 0 rfl ?_
    refine z_if_ne (tgt := 53) mx mb (by decide) dL_refused_45 (by decide) (fun c45 => absurd c45 (by decide)) (fun _ => ?_)
    refine z_bipush mx mb dL_refused_48 (by decide +kernel) ?_
    refine z_goto (tgt := 54) mx mb dL_refused_50 (by decide) ?_
    refine z_callSI (wa := []) (wc := (wC y o a33 S33 tb st)) (wb := []) (As := [.ref (o 0), .int (iZ 1), .int (iZ 51)]) (rest := []) ⟨mx, mb, mml, mo, mts⟩ hK hA hE (fun sz => c_L_setting l hl0 D sz y o a33 S33 tb st 1 51 (by decide) (by decide) hT33) (vx_cwSW 3 mts gL_refused_L_setting rfl rfl rfl (by decide +kernel) ⟨Nat.le_of_ble_eq_true rfl, Nat.le_of_ble_eq_true rfl⟩) (List.append_nil _).symm rfl rfl (Nat.le_of_ble_eq_true rfl) ⟨Nat.le_of_ble_eq_true rfl, Nat.le_of_ble_eq_true rfl⟩ dL_refused_54 (fun r54 u54 hu54 => ?_)
    rw [List.nil_append, List.append_nil]
    obtain ⟨a54, S54⟩ := u54
    obtain ⟨hr, hT54⟩ := hu54
    replace hT54 : Tie (setS st 1 51) S54 := hT54
    obtain rfl : r54 = iZ (-3002) := hr.trans (congrArg iZ (rf_set2 st 1 51 (by decide)).1)
    show Gz pp l ee ({ frames := 10, cells := 100, slots := 600, locals := 183 } : Room) ss mm args below meth cd 4 62 372 Q (Zw D vwCl (va_A wst sz) ss (wC y o a54 S54 tb (setS st 1 51))) 57 [(3, .int (iZ 0)), (1, .long (lZ (dg st.1 st.2.2.2.2 st.2.2.1))), (0, .ref (o 0))] [.int (iZ (-3002))]
    rw [(rf_set2 st 1 51 (by decide)).2]
    rw [(rf_set2 st 1 51 (by decide)).2] at hT54
    refine z_sipush mx mb dL_refused_57 (by decide +kernel) ?_
    refine z_icmp_ne (tgt := 210) mx mb (by decide) (by decide) dL_refused_60 (by decide) (fun c60 => absurd c60 (by decide)) (fun _ => ?_)
    refine z_aload_n mx mb dL_refused_63 rfl 2 rfl ?_
    refine z_iconst mx mb dL_refused_64 ?_
    refine z_iload_n mx mb dL_refused_65 rfl 0 rfl ?_
    refine z_if_ne (tgt := 75) mx mb (by decide) dL_refused_66 (by decide) (fun c66 => absurd c66 (by decide)) (fun _ => ?_)
    refine z_sipush mx mb dL_refused_69 (by decide +kernel) ?_
    refine z_goto (tgt := 76) mx mb dL_refused_72 (by decide) ?_
    refine z_callSI (wa := []) (wc := (wC y o a54 S54 tb st)) (wb := []) (As := [.ref (o 0), .int (iZ 2), .int (iZ 501)]) (rest := []) ⟨mx, mb, mml, mo, mts⟩ hK hA hE (fun sz => c_L_setting l hl0 D sz y o a54 S54 tb st 2 501 (by decide) (by decide) hT54) (vx_cwSW 3 mts gL_refused_L_setting rfl rfl rfl (by decide +kernel) ⟨Nat.le_of_ble_eq_true rfl, Nat.le_of_ble_eq_true rfl⟩) (List.append_nil _).symm rfl rfl (Nat.le_of_ble_eq_true rfl) ⟨Nat.le_of_ble_eq_true rfl, Nat.le_of_ble_eq_true rfl⟩ dL_refused_76 (fun r76 u76 hu76 => ?_)
    rw [List.nil_append, List.append_nil]
    obtain ⟨a76, S76⟩ := u76
    obtain ⟨hr, hT76⟩ := hu76
    replace hT76 : Tie (setS st 2 501) S76 := hT76
    obtain rfl : r76 = iZ (-3002) := hr.trans (congrArg iZ (rf_set2 st 2 501 (by decide)).1)
    show Gz pp l ee ({ frames := 10, cells := 100, slots := 600, locals := 183 } : Room) ss mm args below meth cd 4 63 378 Q (Zw D vwCl (va_A wst sz) ss (wC y o a76 S76 tb (setS st 2 501))) 79 [(3, .int (iZ 0)), (1, .long (lZ (dg st.1 st.2.2.2.2 st.2.2.1))), (0, .ref (o 0))] [.int (iZ (-3002))]
    rw [(rf_set2 st 2 501 (by decide)).2]
    rw [(rf_set2 st 2 501 (by decide)).2] at hT76
    refine z_sipush mx mb dL_refused_79 (by decide +kernel) ?_
    refine z_icmp_ne (tgt := 210) mx mb (by decide) (by decide) dL_refused_82 (by decide) (fun c82 => absurd c82 (by decide)) (fun _ => ?_)
    refine z_aload_n mx mb dL_refused_85 rfl 2 rfl ?_
    refine z_iconst mx mb dL_refused_86 ?_
    refine z_iload_n mx mb dL_refused_87 rfl 0 rfl ?_
    refine z_if_ne (tgt := 96) mx mb (by decide) dL_refused_88 (by decide) (fun c88 => absurd c88 (by decide)) (fun _ => ?_)
    refine z_bipush mx mb dL_refused_91 (by decide +kernel) ?_
    refine z_goto (tgt := 97) mx mb dL_refused_93 (by decide) ?_
    refine z_callSI (wa := []) (wc := (wC y o a76 S76 tb st)) (wb := []) (As := [.ref (o 0), .int (iZ 3), .int (iZ 41)]) (rest := []) ⟨mx, mb, mml, mo, mts⟩ hK hA hE (fun sz => c_L_setting l hl0 D sz y o a76 S76 tb st 3 41 (by decide) (by decide) hT76) (vx_cwSW 3 mts gL_refused_L_setting rfl rfl rfl (by decide +kernel) ⟨Nat.le_of_ble_eq_true rfl, Nat.le_of_ble_eq_true rfl⟩) (List.append_nil _).symm rfl rfl (Nat.le_of_ble_eq_true rfl) ⟨Nat.le_of_ble_eq_true rfl, Nat.le_of_ble_eq_true rfl⟩ dL_refused_97 (fun r97 u97 hu97 => ?_)
    rw [List.nil_append, List.append_nil]
    obtain ⟨a97, S97⟩ := u97
    obtain ⟨hr, hT97⟩ := hu97
    replace hT97 : Tie (setS st 3 41) S97 := hT97
    obtain rfl : r97 = iZ (-3002) := hr.trans (congrArg iZ (rf_set2 st 3 41 (by decide)).1)
    show Gz pp l ee ({ frames := 10, cells := 100, slots := 600, locals := 183 } : Room) ss mm args below meth cd 4 64 384 Q (Zw D vwCl (va_A wst sz) ss (wC y o a97 S97 tb (setS st 3 41))) 100 [(3, .int (iZ 0)), (1, .long (lZ (dg st.1 st.2.2.2.2 st.2.2.1))), (0, .ref (o 0))] [.int (iZ (-3002))]
    rw [(rf_set2 st 3 41 (by decide)).2]
    rw [(rf_set2 st 3 41 (by decide)).2] at hT97
    refine z_sipush mx mb dL_refused_100 (by decide +kernel) ?_
    refine z_icmp_ne (tgt := 210) mx mb (by decide) (by decide) dL_refused_103 (by decide) (fun c103 => absurd c103 (by decide)) (fun _ => ?_)
    refine z_aload_n mx mb dL_refused_106 rfl 2 rfl ?_
    refine z_iconst mx mb dL_refused_107 ?_
    refine z_iload_n mx mb dL_refused_108 rfl 0 rfl ?_
    refine z_if_ne (tgt := 117) mx mb (by decide) dL_refused_109 (by decide) (fun c109 => absurd c109 (by decide)) (fun _ => ?_)
    refine z_bipush mx mb dL_refused_112 (by decide +kernel) ?_
    refine z_goto (tgt := 118) mx mb dL_refused_114 (by decide) ?_
    refine z_callSI (wa := []) (wc := (wC y o a97 S97 tb st)) (wb := []) (As := [.ref (o 0), .int (iZ 0), .int (iZ 10)]) (rest := []) ⟨mx, mb, mml, mo, mts⟩ hK hA hE (fun sz => c_L_heighten l hl0 D sz y o a97 S97 tb st 0 10 (by decide) (by decide) hT97) (vx_cwSW 3 mts gL_refused_L_heighten rfl rfl rfl (by decide +kernel) ⟨Nat.le_of_ble_eq_true rfl, Nat.le_of_ble_eq_true rfl⟩) (List.append_nil _).symm rfl rfl (Nat.le_of_ble_eq_true rfl) ⟨Nat.le_of_ble_eq_true rfl, Nat.le_of_ble_eq_true rfl⟩ dL_refused_118 (fun r118 u118 hu118 => ?_)
    rw [List.nil_append, List.append_nil]
    obtain ⟨a118, S118⟩ := u118
    obtain ⟨hr, hT118⟩ := hu118
    replace hT118 : Tie (hgtS st 0 10) S118 := hT118
    obtain rfl : r118 = iZ (-3002) := hr.trans (congrArg iZ (rf_hgt2 st 0 10 (by omega) (by omega)).1)
    show Gz pp l ee ({ frames := 10, cells := 100, slots := 600, locals := 183 } : Room) ss mm args below meth cd 4 65 390 Q (Zw D vwCl (va_A wst sz) ss (wC y o a118 S118 tb (hgtS st 0 10))) 121 [(3, .int (iZ 0)), (1, .long (lZ (dg st.1 st.2.2.2.2 st.2.2.1))), (0, .ref (o 0))] [.int (iZ (-3002))]
    rw [(rf_hgt2 st 0 10 (by omega) (by omega)).2]
    rw [(rf_hgt2 st 0 10 (by omega) (by omega)).2] at hT118
    refine z_sipush mx mb dL_refused_121 (by decide +kernel) ?_
    refine z_icmp_ne (tgt := 210) mx mb (by decide) (by decide) dL_refused_124 (by decide) (fun c124 => absurd c124 (by decide)) (fun _ => ?_)
    refine z_aload_n mx mb dL_refused_127 rfl 2 rfl ?_
    refine z_iload_n mx mb dL_refused_128 rfl 0 rfl ?_
    refine z_if_ne (tgt := 138) mx mb (by decide) dL_refused_129 (by decide) (fun c129 => absurd c129 (by decide)) (fun _ => ?_)
    refine z_sipush mx mb dL_refused_132 (by decide +kernel) ?_
    refine z_goto (tgt := 139) mx mb dL_refused_135 (by decide) ?_
    refine z_callSI (wa := []) (wc := (wC y o a118 S118 tb st)) (wb := []) (As := [.ref (o 0), .int (iZ 501)]) (rest := []) ⟨mx, mb, mml, mo, mts⟩ hK hA hE (fun sz => c_L_passing l hl0 D sz y o a118 S118 tb st 501 (by decide) hT118) (vx_cwSW 2 mts gL_refused_L_passing rfl rfl rfl (by decide +kernel) ⟨Nat.le_of_ble_eq_true rfl, Nat.le_of_ble_eq_true rfl⟩) (List.append_nil _).symm rfl rfl (Nat.le_of_ble_eq_true rfl) ⟨Nat.le_of_ble_eq_true rfl, Nat.le_of_ble_eq_true rfl⟩ dL_refused_139 (fun r139 u139 hu139 => ?_)
    rw [List.nil_append, List.append_nil]
    obtain ⟨a139, S139⟩ := u139
    obtain ⟨hr, hT139⟩ := hu139
    replace hT139 : Tie (pasS st 501) S139 := hT139
    obtain rfl : r139 = iZ (-3002) := hr.trans (congrArg iZ (rf_pas st 501 (by omega)).1)
    show Gz pp l ee ({ frames := 10, cells := 100, slots := 600, locals := 183 } : Room) ss mm args below meth cd 4 66 396 Q (Zw D vwCl (va_A wst sz) ss (wC y o a139 S139 tb (pasS st 501))) 142 [(3, .int (iZ 0)), (1, .long (lZ (dg st.1 st.2.2.2.2 st.2.2.1))), (0, .ref (o 0))] [.int (iZ (-3002))]
    rw [(rf_pas st 501 (by omega)).2]
    rw [(rf_pas st 501 (by omega)).2] at hT139
    refine z_sipush mx mb dL_refused_142 (by decide +kernel) ?_
    refine z_icmp_ne (tgt := 210) mx mb (by decide) (by decide) dL_refused_145 (by decide) (fun c145 => absurd c145 (by decide)) (fun _ => ?_)
    refine z_aload_n mx mb dL_refused_148 rfl 2 rfl ?_
    refine z_iload_n mx mb dL_refused_149 rfl 0 rfl ?_
    refine z_if_ne (tgt := 158) mx mb (by decide) dL_refused_150 (by decide) (fun c150 => absurd c150 (by decide)) (fun _ => ?_)
    refine z_bipush mx mb dL_refused_153 (by decide +kernel) ?_
    refine z_goto (tgt := 159) mx mb dL_refused_155 (by decide) ?_
    refine z_callSI (wa := []) (wc := (wC y o a139 S139 tb st)) (wb := []) (As := [.ref (o 0), .int (iZ 12)]) (rest := []) ⟨mx, mb, mml, mo, mts⟩ hK hA hE (fun sz => c_L_all l hl0 D sz y o a139 S139 tb st 12 (by decide) hT139) (vx_cwSW 2 mts gL_refused_L_all rfl rfl rfl (by decide +kernel) ⟨Nat.le_of_ble_eq_true rfl, Nat.le_of_ble_eq_true rfl⟩) (List.append_nil _).symm rfl rfl (Nat.le_of_ble_eq_true rfl) ⟨Nat.le_of_ble_eq_true rfl, Nat.le_of_ble_eq_true rfl⟩ dL_refused_159 (fun r159 u159 hu159 => ?_)
    rw [List.nil_append, List.append_nil]
    obtain ⟨a159, S159⟩ := u159
    obtain ⟨hr, hT159⟩ := hu159
    replace hT159 : Tie st S159 := hT159
    obtain rfl : r159 = iZ (-3002) := hr.trans (congrArg iZ (rf_all st 12 (by omega)))
    show Gz pp l ee ({ frames := 10, cells := 100, slots := 600, locals := 183 } : Room) ss mm args below meth cd 4 67 402 Q (Zw D vwCl (va_A wst sz) ss (wC y o a159 S159 tb st)) 162 [(3, .int (iZ 0)), (1, .long (lZ (dg st.1 st.2.2.2.2 st.2.2.1))), (0, .ref (o 0))] [.int (iZ (-3002))]
    refine z_sipush mx mb dL_refused_162 (by decide +kernel) ?_
    refine z_icmp_ne (tgt := 210) mx mb (by decide) (by decide) dL_refused_165 (by decide) (fun c165 => absurd c165 (by decide)) (fun _ => ?_)
    refine z_aload_n mx mb dL_refused_168 rfl 2 rfl ?_
    refine z_iload_n mx mb dL_refused_169 rfl 0 rfl ?_
    refine z_if_ne (tgt := 179) mx mb (by decide) dL_refused_170 (by decide) (fun c170 => absurd c170 (by decide)) (fun _ => ?_)
    refine z_sipush mx mb dL_refused_173 (by decide +kernel) ?_
    refine z_goto (tgt := 180) mx mb dL_refused_176 (by decide) ?_
    refine z_callSI (wa := []) (wc := (wC y o a159 S159 tb st)) (wb := []) (As := [.ref (o 0), .int (iZ 501)]) (rest := []) ⟨mx, mb, mml, mo, mts⟩ hK hA hE (fun sz => c_L_sentWith l hl0 D sz y o a159 S159 tb st 501 (by decide) hT159) (vx_cwSW 2 mts gL_refused_L_sentWith rfl rfl rfl (by decide +kernel) ⟨Nat.le_of_ble_eq_true rfl, Nat.le_of_ble_eq_true rfl⟩) (List.append_nil _).symm rfl rfl (Nat.le_of_ble_eq_true rfl) ⟨Nat.le_of_ble_eq_true rfl, Nat.le_of_ble_eq_true rfl⟩ dL_refused_180 (fun r180 u180 hu180 => ?_)
    rw [List.nil_append, List.append_nil]
    obtain ⟨a180, S180⟩ := u180
    obtain ⟨hr, hT180⟩ := hu180
    replace hT180 : Tie st S180 := hT180
    obtain rfl : r180 = iZ (-3002) := hr.trans (congrArg iZ (rf_swt st 501 (by omega)))
    show Gz pp l ee ({ frames := 10, cells := 100, slots := 600, locals := 183 } : Room) ss mm args below meth cd 4 68 408 Q (Zw D vwCl (va_A wst sz) ss (wC y o a180 S180 tb st)) 183 [(3, .int (iZ 0)), (1, .long (lZ (dg st.1 st.2.2.2.2 st.2.2.1))), (0, .ref (o 0))] [.int (iZ (-3002))]
    refine z_sipush mx mb dL_refused_183 (by decide +kernel) ?_
    refine z_icmp_ne (tgt := 210) mx mb (by decide) (by decide) dL_refused_186 (by decide) (fun c186 => absurd c186 (by decide)) (fun _ => ?_)
    refine z_aload_n mx mb dL_refused_189 rfl 2 rfl ?_
    refine z_iload_n mx mb dL_refused_190 rfl 0 rfl ?_
    refine z_if_ne (tgt := 200) mx mb (by decide) dL_refused_191 (by decide) (fun c191 => absurd c191 (by decide)) (fun _ => ?_)
    refine z_sipush mx mb dL_refused_194 (by decide +kernel) ?_
    refine z_goto (tgt := 201) mx mb dL_refused_197 (by decide) ?_
    refine z_callSI (wa := []) (wc := (wC y o a180 S180 tb st)) (wb := []) (As := [.ref (o 0), .int (iZ 128)]) (rest := []) ⟨mx, mb, mml, mo, mts⟩ hK hA hE (fun sz => c_L_typing l hl0 D sz y o a180 S180 tb st 128 (by decide) hT180) (vx_cwSW 2 mts gL_refused_L_typing rfl rfl rfl (by decide +kernel) ⟨Nat.le_of_ble_eq_true rfl, Nat.le_of_ble_eq_true rfl⟩) (List.append_nil _).symm rfl rfl (Nat.le_of_ble_eq_true rfl) ⟨Nat.le_of_ble_eq_true rfl, Nat.le_of_ble_eq_true rfl⟩ dL_refused_201 (fun r201 u201 hu201 => ?_)
    rw [List.nil_append, List.append_nil]
    obtain ⟨a201, S201⟩ := u201
    obtain ⟨hr, hT201⟩ := hu201
    replace hT201 : Tie (typS st 128) S201 := hT201
    obtain rfl : r201 = iZ (-3002) := hr.trans (congrArg iZ (rf_typ st 128 (by omega)).1)
    show Gz pp l ee ({ frames := 10, cells := 100, slots := 600, locals := 183 } : Room) ss mm args below meth cd 4 69 414 Q (Zw D vwCl (va_A wst sz) ss (wC y o a201 S201 tb (typS st 128))) 204 [(3, .int (iZ 0)), (1, .long (lZ (dg st.1 st.2.2.2.2 st.2.2.1))), (0, .ref (o 0))] [.int (iZ (-3002))]
    rw [(rf_typ st 128 (by omega)).2]
    rw [(rf_typ st 128 (by omega)).2] at hT201
    refine z_sipush mx mb dL_refused_204 (by decide +kernel) ?_
    refine z_icmp_eq (tgt := 212) mx mb (by decide) (by decide) dL_refused_207 (by decide) (fun _ => ?_) (fun c207 => absurd c207 (by decide))
    refine z_iinc mx mb dL_refused_212 0 rfl (by decide) [(3, .int (iZ 1)), (1, .long (lZ (dg st.1 st.2.2.2.2 st.2.2.1))), (0, .ref (o 0))] (by rfl) ?_
    refine z_goto (tgt := 16) mx mb dL_refused_215 (by decide) ?_
    refine z_iload_n mx mb dL_refused_16 rfl 0 rfl ?_
    refine z_iconst mx mb dL_refused_17 ?_
    refine z_icmp_ge (tgt := 218) mx mb (by decide) (by decide) dL_refused_18 (by decide) (fun c18 => absurd c18 (by decide)) (fun _ => ?_)
    refine z_aload_n mx mb dL_refused_21 rfl 2 rfl ?_
    refine z_iconst mx mb dL_refused_22 ?_
    refine z_iload_n mx mb dL_refused_23 rfl 0 rfl ?_
    refine z_if_ne (tgt := 32) mx mb (by decide) dL_refused_24 (by decide) (fun _ => ?_) (fun c24 => absurd c24 (by decide))
    refine z_iconst mx mb dL_refused_32 ?_
    refine z_callSI (wa := []) (wc := (wC y o a201 S201 tb st)) (wb := []) (As := [.ref (o 0), .int (iZ 0), .int (iZ (-1))]) (rest := []) ⟨mx, mb, mml, mo, mts⟩ hK hA hE (fun sz => c_L_setting l hl0 D sz y o a201 S201 tb st 0 (-1) (by decide) (by decide) hT201) (vx_cwSW 3 mts gL_refused_L_setting rfl rfl rfl (by decide +kernel) ⟨Nat.le_of_ble_eq_true rfl, Nat.le_of_ble_eq_true rfl⟩) (List.append_nil _).symm rfl rfl (Nat.le_of_ble_eq_true rfl) ⟨Nat.le_of_ble_eq_true rfl, Nat.le_of_ble_eq_true rfl⟩ dL_refused_33 (fun r33 u33 hu33 => ?_)
    rw [List.nil_append, List.append_nil]
    obtain ⟨a33, S33⟩ := u33
    obtain ⟨hr, hT33⟩ := hu33
    replace hT33 : Tie (setS st 0 (-1)) S33 := hT33
    obtain rfl : r33 = iZ (-3002) := hr.trans (congrArg iZ (rf_set2 st 0 (-1) (by decide)).1)
    show Gz pp l ee ({ frames := 10, cells := 100, slots := 600, locals := 183 } : Room) ss mm args below meth cd 4 70 420 Q (Zw D vwCl (va_A wst sz) ss (wC y o a33 S33 tb (setS st 0 (-1)))) 36 [(3, .int (iZ 1)), (1, .long (lZ (dg st.1 st.2.2.2.2 st.2.2.1))), (0, .ref (o 0))] [.int (iZ (-3002))]
    rw [(rf_set2 st 0 (-1) (by decide)).2]
    rw [(rf_set2 st 0 (-1) (by decide)).2] at hT33
    refine z_sipush mx mb dL_refused_36 (by decide +kernel) ?_
    refine z_icmp_ne (tgt := 210) mx mb (by decide) (by decide) dL_refused_39 (by decide) (fun c39 => absurd c39 (by decide)) (fun _ => ?_)
    refine z_aload_n mx mb dL_refused_42 rfl 2 rfl ?_
    refine z_iconst mx mb dL_refused_43 ?_
    refine z_iload_n mx mb dL_refused_44 rfl 0 rfl ?_
    refine z_if_ne (tgt := 53) mx mb (by decide) dL_refused_45 (by decide) (fun _ => ?_) (fun c45 => absurd c45 (by decide))
    refine z_iconst mx mb dL_refused_53 ?_
    refine z_callSI (wa := []) (wc := (wC y o a33 S33 tb st)) (wb := []) (As := [.ref (o 0), .int (iZ 1), .int (iZ 0)]) (rest := []) ⟨mx, mb, mml, mo, mts⟩ hK hA hE (fun sz => c_L_setting l hl0 D sz y o a33 S33 tb st 1 0 (by decide) (by decide) hT33) (vx_cwSW 3 mts gL_refused_L_setting rfl rfl rfl (by decide +kernel) ⟨Nat.le_of_ble_eq_true rfl, Nat.le_of_ble_eq_true rfl⟩) (List.append_nil _).symm rfl rfl (Nat.le_of_ble_eq_true rfl) ⟨Nat.le_of_ble_eq_true rfl, Nat.le_of_ble_eq_true rfl⟩ dL_refused_54 (fun r54 u54 hu54 => ?_)
    rw [List.nil_append, List.append_nil]
    obtain ⟨a54, S54⟩ := u54
    obtain ⟨hr, hT54⟩ := hu54
    replace hT54 : Tie (setS st 1 0) S54 := hT54
    obtain rfl : r54 = iZ (-3002) := hr.trans (congrArg iZ (rf_set2 st 1 0 (by decide)).1)
    show Gz pp l ee ({ frames := 10, cells := 100, slots := 600, locals := 183 } : Room) ss mm args below meth cd 4 71 426 Q (Zw D vwCl (va_A wst sz) ss (wC y o a54 S54 tb (setS st 1 0))) 57 [(3, .int (iZ 1)), (1, .long (lZ (dg st.1 st.2.2.2.2 st.2.2.1))), (0, .ref (o 0))] [.int (iZ (-3002))]
    rw [(rf_set2 st 1 0 (by decide)).2]
    rw [(rf_set2 st 1 0 (by decide)).2] at hT54
    refine z_sipush mx mb dL_refused_57 (by decide +kernel) ?_
    refine z_icmp_ne (tgt := 210) mx mb (by decide) (by decide) dL_refused_60 (by decide) (fun c60 => absurd c60 (by decide)) (fun _ => ?_)
    refine z_aload_n mx mb dL_refused_63 rfl 2 rfl ?_
    refine z_iconst mx mb dL_refused_64 ?_
    refine z_iload_n mx mb dL_refused_65 rfl 0 rfl ?_
    refine z_if_ne (tgt := 75) mx mb (by decide) dL_refused_66 (by decide) (fun _ => ?_) (fun c66 => absurd c66 (by decide))
    refine z_iconst mx mb dL_refused_75 ?_
    refine z_callSI (wa := []) (wc := (wC y o a54 S54 tb st)) (wb := []) (As := [.ref (o 0), .int (iZ 2), .int (iZ (-1))]) (rest := []) ⟨mx, mb, mml, mo, mts⟩ hK hA hE (fun sz => c_L_setting l hl0 D sz y o a54 S54 tb st 2 (-1) (by decide) (by decide) hT54) (vx_cwSW 3 mts gL_refused_L_setting rfl rfl rfl (by decide +kernel) ⟨Nat.le_of_ble_eq_true rfl, Nat.le_of_ble_eq_true rfl⟩) (List.append_nil _).symm rfl rfl (Nat.le_of_ble_eq_true rfl) ⟨Nat.le_of_ble_eq_true rfl, Nat.le_of_ble_eq_true rfl⟩ dL_refused_76 (fun r76 u76 hu76 => ?_)
    rw [List.nil_append, List.append_nil]
    obtain ⟨a76, S76⟩ := u76
    obtain ⟨hr, hT76⟩ := hu76
    replace hT76 : Tie (setS st 2 (-1)) S76 := hT76
    obtain rfl : r76 = iZ (-3002) := hr.trans (congrArg iZ (rf_set2 st 2 (-1) (by decide)).1)
    show Gz pp l ee ({ frames := 10, cells := 100, slots := 600, locals := 183 } : Room) ss mm args below meth cd 4 72 432 Q (Zw D vwCl (va_A wst sz) ss (wC y o a76 S76 tb (setS st 2 (-1)))) 79 [(3, .int (iZ 1)), (1, .long (lZ (dg st.1 st.2.2.2.2 st.2.2.1))), (0, .ref (o 0))] [.int (iZ (-3002))]
    rw [(rf_set2 st 2 (-1) (by decide)).2]
    rw [(rf_set2 st 2 (-1) (by decide)).2] at hT76
    refine z_sipush mx mb dL_refused_79 (by decide +kernel) ?_
    refine z_icmp_ne (tgt := 210) mx mb (by decide) (by decide) dL_refused_82 (by decide) (fun c82 => absurd c82 (by decide)) (fun _ => ?_)
    refine z_aload_n mx mb dL_refused_85 rfl 2 rfl ?_
    refine z_iconst mx mb dL_refused_86 ?_
    refine z_iload_n mx mb dL_refused_87 rfl 0 rfl ?_
    refine z_if_ne (tgt := 96) mx mb (by decide) dL_refused_88 (by decide) (fun _ => ?_) (fun c88 => absurd c88 (by decide))
    refine z_iconst mx mb dL_refused_96 ?_
    refine z_callSI (wa := []) (wc := (wC y o a76 S76 tb st)) (wb := []) (As := [.ref (o 0), .int (iZ 3), .int (iZ (-1))]) (rest := []) ⟨mx, mb, mml, mo, mts⟩ hK hA hE (fun sz => c_L_setting l hl0 D sz y o a76 S76 tb st 3 (-1) (by decide) (by decide) hT76) (vx_cwSW 3 mts gL_refused_L_setting rfl rfl rfl (by decide +kernel) ⟨Nat.le_of_ble_eq_true rfl, Nat.le_of_ble_eq_true rfl⟩) (List.append_nil _).symm rfl rfl (Nat.le_of_ble_eq_true rfl) ⟨Nat.le_of_ble_eq_true rfl, Nat.le_of_ble_eq_true rfl⟩ dL_refused_97 (fun r97 u97 hu97 => ?_)
    rw [List.nil_append, List.append_nil]
    obtain ⟨a97, S97⟩ := u97
    obtain ⟨hr, hT97⟩ := hu97
    replace hT97 : Tie (setS st 3 (-1)) S97 := hT97
    obtain rfl : r97 = iZ (-3002) := hr.trans (congrArg iZ (rf_set2 st 3 (-1) (by decide)).1)
    show Gz pp l ee ({ frames := 10, cells := 100, slots := 600, locals := 183 } : Room) ss mm args below meth cd 4 73 438 Q (Zw D vwCl (va_A wst sz) ss (wC y o a97 S97 tb (setS st 3 (-1)))) 100 [(3, .int (iZ 1)), (1, .long (lZ (dg st.1 st.2.2.2.2 st.2.2.1))), (0, .ref (o 0))] [.int (iZ (-3002))]
    rw [(rf_set2 st 3 (-1) (by decide)).2]
    rw [(rf_set2 st 3 (-1) (by decide)).2] at hT97
    refine z_sipush mx mb dL_refused_100 (by decide +kernel) ?_
    refine z_icmp_ne (tgt := 210) mx mb (by decide) (by decide) dL_refused_103 (by decide) (fun c103 => absurd c103 (by decide)) (fun _ => ?_)
    refine z_aload_n mx mb dL_refused_106 rfl 2 rfl ?_
    refine z_iconst mx mb dL_refused_107 ?_
    refine z_iload_n mx mb dL_refused_108 rfl 0 rfl ?_
    refine z_if_ne (tgt := 117) mx mb (by decide) dL_refused_109 (by decide) (fun _ => ?_) (fun c109 => absurd c109 (by decide))
    refine z_iconst mx mb dL_refused_117 ?_
    refine z_callSI (wa := []) (wc := (wC y o a97 S97 tb st)) (wb := []) (As := [.ref (o 0), .int (iZ 0), .int (iZ (-1))]) (rest := []) ⟨mx, mb, mml, mo, mts⟩ hK hA hE (fun sz => c_L_heighten l hl0 D sz y o a97 S97 tb st 0 (-1) (by decide) (by decide) hT97) (vx_cwSW 3 mts gL_refused_L_heighten rfl rfl rfl (by decide +kernel) ⟨Nat.le_of_ble_eq_true rfl, Nat.le_of_ble_eq_true rfl⟩) (List.append_nil _).symm rfl rfl (Nat.le_of_ble_eq_true rfl) ⟨Nat.le_of_ble_eq_true rfl, Nat.le_of_ble_eq_true rfl⟩ dL_refused_118 (fun r118 u118 hu118 => ?_)
    rw [List.nil_append, List.append_nil]
    obtain ⟨a118, S118⟩ := u118
    obtain ⟨hr, hT118⟩ := hu118
    replace hT118 : Tie (hgtS st 0 (-1)) S118 := hT118
    obtain rfl : r118 = iZ (-3002) := hr.trans (congrArg iZ (rf_hgt2 st 0 (-1) (by omega) (by omega)).1)
    show Gz pp l ee ({ frames := 10, cells := 100, slots := 600, locals := 183 } : Room) ss mm args below meth cd 4 74 444 Q (Zw D vwCl (va_A wst sz) ss (wC y o a118 S118 tb (hgtS st 0 (-1)))) 121 [(3, .int (iZ 1)), (1, .long (lZ (dg st.1 st.2.2.2.2 st.2.2.1))), (0, .ref (o 0))] [.int (iZ (-3002))]
    rw [(rf_hgt2 st 0 (-1) (by omega) (by omega)).2]
    rw [(rf_hgt2 st 0 (-1) (by omega) (by omega)).2] at hT118
    refine z_sipush mx mb dL_refused_121 (by decide +kernel) ?_
    refine z_icmp_ne (tgt := 210) mx mb (by decide) (by decide) dL_refused_124 (by decide) (fun c124 => absurd c124 (by decide)) (fun _ => ?_)
    refine z_aload_n mx mb dL_refused_127 rfl 2 rfl ?_
    refine z_iload_n mx mb dL_refused_128 rfl 0 rfl ?_
    refine z_if_ne (tgt := 138) mx mb (by decide) dL_refused_129 (by decide) (fun _ => ?_) (fun c129 => absurd c129 (by decide))
    refine z_iconst mx mb dL_refused_138 ?_
    refine z_callSI (wa := []) (wc := (wC y o a118 S118 tb st)) (wb := []) (As := [.ref (o 0), .int (iZ 0)]) (rest := []) ⟨mx, mb, mml, mo, mts⟩ hK hA hE (fun sz => c_L_passing l hl0 D sz y o a118 S118 tb st 0 (by decide) hT118) (vx_cwSW 2 mts gL_refused_L_passing rfl rfl rfl (by decide +kernel) ⟨Nat.le_of_ble_eq_true rfl, Nat.le_of_ble_eq_true rfl⟩) (List.append_nil _).symm rfl rfl (Nat.le_of_ble_eq_true rfl) ⟨Nat.le_of_ble_eq_true rfl, Nat.le_of_ble_eq_true rfl⟩ dL_refused_139 (fun r139 u139 hu139 => ?_)
    rw [List.nil_append, List.append_nil]
    obtain ⟨a139, S139⟩ := u139
    obtain ⟨hr, hT139⟩ := hu139
    replace hT139 : Tie (pasS st 0) S139 := hT139
    obtain rfl : r139 = iZ (-3002) := hr.trans (congrArg iZ (rf_pas st 0 (by omega)).1)
    show Gz pp l ee ({ frames := 10, cells := 100, slots := 600, locals := 183 } : Room) ss mm args below meth cd 4 75 450 Q (Zw D vwCl (va_A wst sz) ss (wC y o a139 S139 tb (pasS st 0))) 142 [(3, .int (iZ 1)), (1, .long (lZ (dg st.1 st.2.2.2.2 st.2.2.1))), (0, .ref (o 0))] [.int (iZ (-3002))]
    rw [(rf_pas st 0 (by omega)).2]
    rw [(rf_pas st 0 (by omega)).2] at hT139
    refine z_sipush mx mb dL_refused_142 (by decide +kernel) ?_
    refine z_icmp_ne (tgt := 210) mx mb (by decide) (by decide) dL_refused_145 (by decide) (fun c145 => absurd c145 (by decide)) (fun _ => ?_)
    refine z_aload_n mx mb dL_refused_148 rfl 2 rfl ?_
    refine z_iload_n mx mb dL_refused_149 rfl 0 rfl ?_
    refine z_if_ne (tgt := 158) mx mb (by decide) dL_refused_150 (by decide) (fun _ => ?_) (fun c150 => absurd c150 (by decide))
    refine z_iconst mx mb dL_refused_158 ?_
    refine z_callSI (wa := []) (wc := (wC y o a139 S139 tb st)) (wb := []) (As := [.ref (o 0), .int (iZ (-1))]) (rest := []) ⟨mx, mb, mml, mo, mts⟩ hK hA hE (fun sz => c_L_all l hl0 D sz y o a139 S139 tb st (-1) (by decide) hT139) (vx_cwSW 2 mts gL_refused_L_all rfl rfl rfl (by decide +kernel) ⟨Nat.le_of_ble_eq_true rfl, Nat.le_of_ble_eq_true rfl⟩) (List.append_nil _).symm rfl rfl (Nat.le_of_ble_eq_true rfl) ⟨Nat.le_of_ble_eq_true rfl, Nat.le_of_ble_eq_true rfl⟩ dL_refused_159 (fun r159 u159 hu159 => ?_)
    rw [List.nil_append, List.append_nil]
    obtain ⟨a159, S159⟩ := u159
    obtain ⟨hr, hT159⟩ := hu159
    replace hT159 : Tie st S159 := hT159
    obtain rfl : r159 = iZ (-3002) := hr.trans (congrArg iZ (rf_all st (-1) (by omega)))
    show Gz pp l ee ({ frames := 10, cells := 100, slots := 600, locals := 183 } : Room) ss mm args below meth cd 4 76 456 Q (Zw D vwCl (va_A wst sz) ss (wC y o a159 S159 tb st)) 162 [(3, .int (iZ 1)), (1, .long (lZ (dg st.1 st.2.2.2.2 st.2.2.1))), (0, .ref (o 0))] [.int (iZ (-3002))]
    refine z_sipush mx mb dL_refused_162 (by decide +kernel) ?_
    refine z_icmp_ne (tgt := 210) mx mb (by decide) (by decide) dL_refused_165 (by decide) (fun c165 => absurd c165 (by decide)) (fun _ => ?_)
    refine z_aload_n mx mb dL_refused_168 rfl 2 rfl ?_
    refine z_iload_n mx mb dL_refused_169 rfl 0 rfl ?_
    refine z_if_ne (tgt := 179) mx mb (by decide) dL_refused_170 (by decide) (fun _ => ?_) (fun c170 => absurd c170 (by decide))
    refine z_iconst mx mb dL_refused_179 ?_
    refine z_callSI (wa := []) (wc := (wC y o a159 S159 tb st)) (wb := []) (As := [.ref (o 0), .int (iZ (-1))]) (rest := []) ⟨mx, mb, mml, mo, mts⟩ hK hA hE (fun sz => c_L_sentWith l hl0 D sz y o a159 S159 tb st (-1) (by decide) hT159) (vx_cwSW 2 mts gL_refused_L_sentWith rfl rfl rfl (by decide +kernel) ⟨Nat.le_of_ble_eq_true rfl, Nat.le_of_ble_eq_true rfl⟩) (List.append_nil _).symm rfl rfl (Nat.le_of_ble_eq_true rfl) ⟨Nat.le_of_ble_eq_true rfl, Nat.le_of_ble_eq_true rfl⟩ dL_refused_180 (fun r180 u180 hu180 => ?_)
    rw [List.nil_append, List.append_nil]
    obtain ⟨a180, S180⟩ := u180
    obtain ⟨hr, hT180⟩ := hu180
    replace hT180 : Tie st S180 := hT180
    obtain rfl : r180 = iZ (-3002) := hr.trans (congrArg iZ (rf_swt st (-1) (by omega)))
    show Gz pp l ee ({ frames := 10, cells := 100, slots := 600, locals := 183 } : Room) ss mm args below meth cd 4 77 462 Q (Zw D vwCl (va_A wst sz) ss (wC y o a180 S180 tb st)) 183 [(3, .int (iZ 1)), (1, .long (lZ (dg st.1 st.2.2.2.2 st.2.2.1))), (0, .ref (o 0))] [.int (iZ (-3002))]
    refine z_sipush mx mb dL_refused_183 (by decide +kernel) ?_
    refine z_icmp_ne (tgt := 210) mx mb (by decide) (by decide) dL_refused_186 (by decide) (fun c186 => absurd c186 (by decide)) (fun _ => ?_)
    refine z_aload_n mx mb dL_refused_189 rfl 2 rfl ?_
    refine z_iload_n mx mb dL_refused_190 rfl 0 rfl ?_
    refine z_if_ne (tgt := 200) mx mb (by decide) dL_refused_191 (by decide) (fun _ => ?_) (fun c191 => absurd c191 (by decide))
    refine z_iconst mx mb dL_refused_200 ?_
    refine z_callSI (wa := []) (wc := (wC y o a180 S180 tb st)) (wb := []) (As := [.ref (o 0), .int (iZ (-1))]) (rest := []) ⟨mx, mb, mml, mo, mts⟩ hK hA hE (fun sz => c_L_typing l hl0 D sz y o a180 S180 tb st (-1) (by decide) hT180) (vx_cwSW 2 mts gL_refused_L_typing rfl rfl rfl (by decide +kernel) ⟨Nat.le_of_ble_eq_true rfl, Nat.le_of_ble_eq_true rfl⟩) (List.append_nil _).symm rfl rfl (Nat.le_of_ble_eq_true rfl) ⟨Nat.le_of_ble_eq_true rfl, Nat.le_of_ble_eq_true rfl⟩ dL_refused_201 (fun r201 u201 hu201 => ?_)
    rw [List.nil_append, List.append_nil]
    obtain ⟨a201, S201⟩ := u201
    obtain ⟨hr, hT201⟩ := hu201
    replace hT201 : Tie (typS st (-1)) S201 := hT201
    obtain rfl : r201 = iZ (-3002) := hr.trans (congrArg iZ (rf_typ st (-1) (by omega)).1)
    show Gz pp l ee ({ frames := 10, cells := 100, slots := 600, locals := 183 } : Room) ss mm args below meth cd 4 78 468 Q (Zw D vwCl (va_A wst sz) ss (wC y o a201 S201 tb (typS st (-1)))) 204 [(3, .int (iZ 1)), (1, .long (lZ (dg st.1 st.2.2.2.2 st.2.2.1))), (0, .ref (o 0))] [.int (iZ (-3002))]
    rw [(rf_typ st (-1) (by omega)).2]
    rw [(rf_typ st (-1) (by omega)).2] at hT201
    refine z_sipush mx mb dL_refused_204 (by decide +kernel) ?_
    refine z_icmp_eq (tgt := 212) mx mb (by decide) (by decide) dL_refused_207 (by decide) (fun _ => ?_) (fun c207 => absurd c207 (by decide))
    refine z_iinc mx mb dL_refused_212 0 rfl (by decide) [(3, .int (iZ 2)), (1, .long (lZ (dg st.1 st.2.2.2.2 st.2.2.1))), (0, .ref (o 0))] (by rfl) ?_
    refine z_goto (tgt := 16) mx mb dL_refused_215 (by decide) ?_
    refine z_iload_n mx mb dL_refused_16 rfl 0 rfl ?_
    refine z_iconst mx mb dL_refused_17 ?_
    refine z_icmp_ge (tgt := 218) mx mb (by decide) (by decide) dL_refused_18 (by decide) (fun _ => ?_) (fun c18 => absurd c18 (by decide))
    refine z_aload_n mx mb dL_refused_218 rfl 2 rfl ?_
    refine z_callL (wa := []) (wc := (wC y o a201 S201 tb st)) (wb := []) (As := []) (rest := []) ⟨mx, mb, mml, mo, mts⟩ hK hA (fun sz => c_X4_digest l D sz y o a201 S201 tb st.2.2.2.1 st.2.2.2.2 st.2.2.1 st.1 hT201.1.1 hT201.1.2.1 hT201.1.2.2.1) (cwV 0 mts gL_refused_X4_digest rfl rfl rfl (by decide +kernel) ⟨Nat.le_of_ble_eq_true rfl, Nat.le_of_ble_eq_true rfl⟩) (List.append_nil _).symm 0 wB_0 rfl rfl rfl rfl (Nat.le_of_ble_eq_true rfl) ⟨Nat.le_of_ble_eq_true rfl, Nat.le_of_ble_eq_true rfl⟩ dL_refused_219 (fun r219 u219 hu219 => ?_)
    rw [List.nil_append, List.append_nil]
    obtain ⟨hr, hv0⟩ := hu219
    have hT219 : Tie st u219 := tie_trial hT201 hv0
    obtain rfl : r219 = lZ (dg st.1 st.2.2.2.2 st.2.2.1) := hr
    show Gz pp l ee ({ frames := 10, cells := 100, slots := 600, locals := 183 } : Room) ss mm args below meth cd 4 78 468 Q (Zw D vwCl (va_A wst sz) ss (wC y o a201 u219 tb st)) 222 [(3, .int (iZ 2)), (1, .long (lZ (dg st.1 st.2.2.2.2 st.2.2.1))), (0, .ref (o 0))] [.long (lZ (dg st.1 st.2.2.2.2 st.2.2.1))]
    refine z_lload_n mx mb dL_refused_222 rfl 1 rfl ?_
    refine z_lcmp0 mx mb (by rfl) dL_refused_223 ?_
    refine z_if_ne (tgt := 231) mx mb (by decide) dL_refused_224 (by decide) (fun c224 => absurd c224 (by decide)) (fun _ => ?_)
    refine z_iconst mx mb dL_refused_227 ?_
    refine z_goto (tgt := 232) mx mb dL_refused_228 (by decide) ?_
    refine z_widen (k1 := 100) (n1 := 600) (Nat.le_of_ble_eq_true rfl) (Nat.le_of_ble_eq_true rfl) ?_
    rw [hQ]
    exact z_retZ mx mb mr mlk hK (by decide) (a201, u219) (by exact ⟨rfl, hT219⟩) rfl dL_refused_232
  subst hQ
  subst hw0
  exact hstart
