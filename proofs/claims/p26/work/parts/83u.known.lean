set_option maxRecDepth 100000 in
theorem in_L_known_X4 : ∀ w ∈ wsX40, w ∈ wsL_known := by decide +kernel
set_option maxRecDepth 100000 in
set_option maxHeartbeats 8000000 in
theorem c_L_known (l : Launch) (hl0 : l.stackTraces = false) (D : va_G) (sz : Nat) (y : Nat → ClassId)   : Met l yL_known wsL_known ({ frames := 11, cells := 1600, slots := 12000, locals := 206 } : Room) (zPe D vwCl (zT y) ([] : va_W) sz []) (va_Qi (fun (r : Int32) (_ : Unit) => r = iZ 1) (zB D vwCl (zT y) ([] : va_W) sz (fun _ : Unit => ([] : va_W))) (va_A ([] : va_W) sz)) 1600 12000 (va_A ([] : va_W) sz) := by
  refine z_headE (cc := cL_known) (maxL := 2) (ret := (some .boolean)) [] rfl (Nat.le_of_ble_eq_true rfl) (by decide +kernel) rfl ?_
  intro pp ee ss mm below meth cd mx mb mr mml mo mts mlk hK hname hsz hA hE
  generalize ([] : List Value).toArray = args at mts ⊢
  obtain ⟨wst, hw0⟩ : ∃ wst, wst = ([] : va_W) := ⟨_, rfl⟩
  replace hE : zE (va_A wst sz) ss ss.heap := by rw [hw0]; exact hE
  replace hA : ∀ q, ss.heap.size ≤ q → va_A wst sz q := by rw [hw0]; exact hA
  obtain ⟨Q, hQ⟩ : ∃ Q, Q = MQ below (va_Qi (fun (r : Int32) (_ : Unit) => r = iZ 1) (zB D vwCl (zT y) wst sz (fun _ : Unit => ([] : va_W))) (va_A wst sz)) args ss 1600 12000 (va_A wst sz) := ⟨_, rfl⟩
  have hstart : Gz pp l ee ({ frames := 11, cells := 1600, slots := 12000, locals := 206 } : Room) ss mm args below meth cd 2 0 0 Q (Zw D vwCl (va_A wst sz) ss ([] : va_W)) 0 [] [] := by
    refine z_new (ci := 4) (C := RX4) (T := TX4) (N := 5) mx mb mts (in_L_known_X4) tyX4_ok mo (mts _ (List.mem_of_getElem? (i := 1) rfl)) (mts _ (List.mem_of_getElem? (i := 2) rfl)) (mts _ (List.mem_of_getElem? (i := 3) rfl)) hK hA rfl [.null, .null, .null, .null, .int (iZ 0)] (by decide) (Nat.le_of_ble_eq_true rfl) (Nat.le_of_ble_eq_true rfl) dL_known_0 (fun q0 => ?_)
    show Gz pp l ee ({ frames := 11, cells := 1600, slots := 12000, locals := 206 } : Room) ss mm args below meth cd 2 1 5 Q (Zw D vwCl (va_A wst sz) ss ([(q0, .inr (4, [.null, .null, .null, .null, .int (iZ 0)]))] : va_W)) 3 [] [.ref q0]
    refine z_dup mx mb dL_known_3 rfl ?_
    refine z_callCE (wa := []) (wc := ([(q0, .inr (4, [.null, .null, .null, .null, .int (iZ 0)]))] : va_W)) (wb := []) (As := []) (rest := [.ref q0]) ⟨mx, mb, mml, mo, mts⟩ hK hA hE (fun sz => c_X4_init l D sz y q0) (cwI 0 mts gL_known_X4_init rfl rfl rfl (mts _ (List.mem_of_getElem? (i := 3) rfl)) (mts _ (List.mem_of_getElem? (i := 4) rfl)) (mts _ (List.mem_of_getElem? (i := 5) rfl)) rfl (by decide +kernel) ⟨Nat.le_of_ble_eq_true rfl, Nat.le_of_ble_eq_true rfl⟩) (List.append_nil _).symm rfl rfl (Nat.le_of_ble_eq_true rfl) ⟨Nat.le_of_ble_eq_true rfl, Nat.le_of_ble_eq_true rfl⟩ dL_known_4 (fun u4 hu4 => ?_)
    rw [List.nil_append, List.append_nil]
    obtain ⟨o4, a4, S4, tb4⟩ := u4
    obtain ⟨h04, hR4⟩ := hu4
    replace h04 : o4 0 = q0 := h04
    subst h04
    have hT4 : Tie new0 S4 := tie_new hR4
    show Gz pp l ee ({ frames := 11, cells := 1600, slots := 12000, locals := 206 } : Room) ss mm args below meth cd 2 96 1519 Q (Zw D vwCl (va_A wst sz) ss (wC y o4 a4 S4 tb4 new0)) 7 [] [.ref (o4 0)]
    replace hT4 : Tie K0 S4 := kt_K0 hT4
    show Gz pp l ee ({ frames := 11, cells := 1600, slots := 12000, locals := 206 } : Room) ss mm args below meth cd 2 96 1519 Q (Zw D vwCl (va_A wst sz) ss (wC y o4 a4 S4 tb4 K0)) 7 [] [.ref (o4 0)]
    refine z_astore_n mx mb dL_known_7 rfl (by decide) [(0, .ref (o4 0))] rfl ?_
    refine z_aload_n mx mb dL_known_8 rfl 0 rfl ?_
    refine z_callSE (wa := []) (wc := (wC y o4 a4 S4 tb4 K0)) (wb := []) (As := [.ref (o4 0)]) (rest := []) ⟨mx, mb, mml, mo, mts⟩ hK hA hE (fun sz => c_L_refused l hl0 D sz y o4 a4 S4 tb4 K0 hT4) (cwS 1 mts gL_known_L_refused rfl rfl rfl (by decide +kernel) ⟨Nat.le_of_ble_eq_true rfl, Nat.le_of_ble_eq_true rfl⟩) (List.append_nil _).symm rfl rfl (Nat.le_of_ble_eq_true rfl) ⟨Nat.le_of_ble_eq_true rfl, Nat.le_of_ble_eq_true rfl⟩ dL_known_9 (fun r9 u9 hu9 => ?_)
    rw [List.nil_append, List.append_nil]
    obtain ⟨a9, S9⟩ := u9
    obtain ⟨hr, hT9⟩ := hu9
    replace hT9 : Tie K0 S9 := hT9
    obtain rfl : r9 = iZ 1 := hr
    show Gz pp l ee ({ frames := 11, cells := 1600, slots := 12000, locals := 206 } : Room) ss mm args below meth cd 2 196 2119 Q (Zw D vwCl (va_A wst sz) ss (wC y o4 a9 S9 tb4 K0)) 12 [(0, .ref (o4 0))] [.int (iZ 1)]
    refine z_if_eq (tgt := 203) mx mb (by decide) dL_known_12 (by decide) (fun c12 => absurd c12 (by decide)) (fun _ => ?_)
    refine z_aload_n mx mb dL_known_15 rfl 0 rfl ?_
    refine z_iconst mx mb dL_known_16 ?_
    refine z_iconst mx mb dL_known_17 ?_
    refine z_callSE (wa := []) (wc := (wC y o4 a9 S9 tb4 K0)) (wb := []) (As := [.ref (o4 0), .int (iZ 0), .int (iZ 0)]) (rest := []) ⟨mx, mb, mml, mo, mts⟩ hK hA hE (fun sz => c_L_isDigest l hl0 D sz y o4 a9 S9 tb4 K0 0 0 (by decide +kernel) (by decide +kernel) hT9) (cwS 3 mts gL_known_L_isDigest rfl rfl rfl (by decide +kernel) ⟨Nat.le_of_ble_eq_true rfl, Nat.le_of_ble_eq_true rfl⟩) (List.append_nil _).symm rfl rfl (Nat.le_of_ble_eq_true rfl) ⟨Nat.le_of_ble_eq_true rfl, Nat.le_of_ble_eq_true rfl⟩ dL_known_18 (fun r18 u18 hu18 => ?_)
    rw [List.nil_append, List.append_nil]
    obtain ⟨a18, S18⟩ := u18
    obtain ⟨hr, hT18⟩ := hu18
    replace hT18 : Tie K0 S18 := hT18
    obtain rfl : r18 = iZ 1 := hr
    show Gz pp l ee ({ frames := 11, cells := 1600, slots := 12000, locals := 206 } : Room) ss mm args below meth cd 2 696 5119 Q (Zw D vwCl (va_A wst sz) ss (wC y o4 a18 S18 tb4 K0)) 21 [(0, .ref (o4 0))] [.int (iZ 1)]
    refine z_if_eq (tgt := 203) mx mb (by decide) dL_known_21 (by decide) (fun c21 => absurd c21 (by decide)) (fun _ => ?_)
    refine z_aload_n mx mb dL_known_24 rfl 0 rfl ?_
    refine z_iconst mx mb dL_known_25 ?_
    refine z_callSI (wa := []) (wc := (wC y o4 a18 S18 tb4 K0)) (wb := []) (As := [.ref (o4 0), .int (iZ 0)]) (rest := []) ⟨mx, mb, mml, mo, mts⟩ hK hA hE (fun sz => c_L_all l hl0 D sz y o4 a18 S18 tb4 K0 0 (by decide) hT18) (vx_cwSW 2 mts gL_known_L_all rfl rfl rfl (by decide +kernel) ⟨Nat.le_of_ble_eq_true rfl, Nat.le_of_ble_eq_true rfl⟩) (List.append_nil _).symm rfl rfl (Nat.le_of_ble_eq_true rfl) ⟨Nat.le_of_ble_eq_true rfl, Nat.le_of_ble_eq_true rfl⟩ dL_known_26 (fun r26 u26 hu26 => ?_)
    rw [List.nil_append, List.append_nil]
    obtain ⟨a26, S26⟩ := u26
    obtain ⟨hr, hT26⟩ := hu26
    replace hT26 : Tie K0 S26 := hT26
    obtain rfl : r26 = iZ 14 := hr.trans (congrArg iZ ka_26)
    show Gz pp l ee ({ frames := 11, cells := 1600, slots := 12000, locals := 206 } : Room) ss mm args below meth cd 2 697 5125 Q (Zw D vwCl (va_A wst sz) ss (wC y o4 a26 S26 tb4 K0)) 29 [(0, .ref (o4 0))] [.int (iZ 14)]
    refine z_bipush mx mb dL_known_29 (by decide +kernel) ?_
    refine z_icmp_ne (tgt := 203) mx mb (by decide) (by decide) dL_known_31 (by decide) (fun c31 => absurd c31 (by decide)) (fun _ => ?_)
    refine z_aload_n mx mb dL_known_34 rfl 0 rfl ?_
    refine z_iconst mx mb dL_known_35 ?_
    refine z_callSI (wa := []) (wc := (wC y o4 a26 S26 tb4 K0)) (wb := []) (As := [.ref (o4 0), .int (iZ 1)]) (rest := []) ⟨mx, mb, mml, mo, mts⟩ hK hA hE (fun sz => c_L_all l hl0 D sz y o4 a26 S26 tb4 K0 1 (by decide) hT26) (vx_cwSW 2 mts gL_known_L_all rfl rfl rfl (by decide +kernel) ⟨Nat.le_of_ble_eq_true rfl, Nat.le_of_ble_eq_true rfl⟩) (List.append_nil _).symm rfl rfl (Nat.le_of_ble_eq_true rfl) ⟨Nat.le_of_ble_eq_true rfl, Nat.le_of_ble_eq_true rfl⟩ dL_known_36 (fun r36 u36 hu36 => ?_)
    rw [List.nil_append, List.append_nil]
    obtain ⟨a36, S36⟩ := u36
    obtain ⟨hr, hT36⟩ := hu36
    replace hT36 : Tie K0 S36 := hT36
    obtain rfl : r36 = iZ 4 := hr.trans (congrArg iZ ka_36)
    show Gz pp l ee ({ frames := 11, cells := 1600, slots := 12000, locals := 206 } : Room) ss mm args below meth cd 2 698 5131 Q (Zw D vwCl (va_A wst sz) ss (wC y o4 a36 S36 tb4 K0)) 39 [(0, .ref (o4 0))] [.int (iZ 4)]
    refine z_iconst mx mb dL_known_39 ?_
    refine z_icmp_ne (tgt := 203) mx mb (by decide) (by decide) dL_known_40 (by decide) (fun c40 => absurd c40 (by decide)) (fun _ => ?_)
    refine z_aload_n mx mb dL_known_43 rfl 0 rfl ?_
    refine z_bipush mx mb dL_known_44 (by decide +kernel) ?_
    refine z_callSI (wa := []) (wc := (wC y o4 a36 S36 tb4 K0)) (wb := []) (As := [.ref (o4 0), .int (iZ 9)]) (rest := []) ⟨mx, mb, mml, mo, mts⟩ hK hA hE (fun sz => c_L_all l hl0 D sz y o4 a36 S36 tb4 K0 9 (by decide) hT36) (vx_cwSW 2 mts gL_known_L_all rfl rfl rfl (by decide +kernel) ⟨Nat.le_of_ble_eq_true rfl, Nat.le_of_ble_eq_true rfl⟩) (List.append_nil _).symm rfl rfl (Nat.le_of_ble_eq_true rfl) ⟨Nat.le_of_ble_eq_true rfl, Nat.le_of_ble_eq_true rfl⟩ dL_known_46 (fun r46 u46 hu46 => ?_)
    rw [List.nil_append, List.append_nil]
    obtain ⟨a46, S46⟩ := u46
    obtain ⟨hr, hT46⟩ := hu46
    replace hT46 : Tie K0 S46 := hT46
    obtain rfl : r46 = iZ (-1) := hr.trans (congrArg iZ ka_46)
    show Gz pp l ee ({ frames := 11, cells := 1600, slots := 12000, locals := 206 } : Room) ss mm args below meth cd 2 699 5137 Q (Zw D vwCl (va_A wst sz) ss (wC y o4 a46 S46 tb4 K0)) 49 [(0, .ref (o4 0))] [.int (iZ (-1))]
    refine z_iconst mx mb dL_known_49 ?_
    refine z_icmp_ne (tgt := 203) mx mb (by decide) (by decide) dL_known_50 (by decide) (fun c50 => absurd c50 (by decide)) (fun _ => ?_)
    refine z_aload_n mx mb dL_known_53 rfl 0 rfl ?_
    refine z_bipush mx mb dL_known_54 (by decide +kernel) ?_
    refine z_callSI (wa := []) (wc := (wC y o4 a46 S46 tb4 K0)) (wb := []) (As := [.ref (o4 0), .int (iZ 11)]) (rest := []) ⟨mx, mb, mml, mo, mts⟩ hK hA hE (fun sz => c_L_all l hl0 D sz y o4 a46 S46 tb4 K0 11 (by decide) hT46) (vx_cwSW 2 mts gL_known_L_all rfl rfl rfl (by decide +kernel) ⟨Nat.le_of_ble_eq_true rfl, Nat.le_of_ble_eq_true rfl⟩) (List.append_nil _).symm rfl rfl (Nat.le_of_ble_eq_true rfl) ⟨Nat.le_of_ble_eq_true rfl, Nat.le_of_ble_eq_true rfl⟩ dL_known_56 (fun r56 u56 hu56 => ?_)
    rw [List.nil_append, List.append_nil]
    obtain ⟨a56, S56⟩ := u56
    obtain ⟨hr, hT56⟩ := hu56
    replace hT56 : Tie K0 S56 := hT56
    obtain rfl : r56 = iZ 7 := hr.trans (congrArg iZ ka_56)
    show Gz pp l ee ({ frames := 11, cells := 1600, slots := 12000, locals := 206 } : Room) ss mm args below meth cd 2 700 5143 Q (Zw D vwCl (va_A wst sz) ss (wC y o4 a56 S56 tb4 K0)) 59 [(0, .ref (o4 0))] [.int (iZ 7)]
    refine z_bipush mx mb dL_known_59 (by decide +kernel) ?_
    refine z_icmp_ne (tgt := 203) mx mb (by decide) (by decide) dL_known_61 (by decide) (fun c61 => absurd c61 (by decide)) (fun _ => ?_)
    refine z_aload_n mx mb dL_known_64 rfl 0 rfl ?_
    refine z_iconst mx mb dL_known_65 ?_
    refine z_iconst mx mb dL_known_66 ?_
    refine z_callSI (wa := []) (wc := (wC y o4 a56 S56 tb4 K0)) (wb := []) (As := [.ref (o4 0), .int (iZ 0), .int (iZ 0)]) (rest := []) ⟨mx, mb, mml, mo, mts⟩ hK hA hE (fun sz => c_L_blockBy l hl0 D sz y o4 a56 S56 tb4 K0 0 0 (by decide) (by decide) hT56) (vx_cwSW 3 mts gL_known_L_blockBy rfl rfl rfl (by decide +kernel) ⟨Nat.le_of_ble_eq_true rfl, Nat.le_of_ble_eq_true rfl⟩) (List.append_nil _).symm rfl rfl (Nat.le_of_ble_eq_true rfl) ⟨Nat.le_of_ble_eq_true rfl, Nat.le_of_ble_eq_true rfl⟩ dL_known_67 (fun r67 u67 hu67 => ?_)
    rw [List.nil_append, List.append_nil]
    obtain ⟨a67, S67⟩ := u67
    obtain ⟨hr, hT67⟩ := hu67
    replace hT67 : Tie K0 S67 := hT67
    obtain rfl : r67 = iZ 0 := hr.trans (congrArg iZ ka_67)
    show Gz pp l ee ({ frames := 11, cells := 1600, slots := 12000, locals := 206 } : Room) ss mm args below meth cd 2 701 5149 Q (Zw D vwCl (va_A wst sz) ss (wC y o4 a67 S67 tb4 K0)) 70 [(0, .ref (o4 0))] [.int (iZ 0)]
    refine z_if_ne (tgt := 203) mx mb (by decide) dL_known_70 (by decide) (fun c70 => absurd c70 (by decide)) (fun _ => ?_)
    refine z_aload_n mx mb dL_known_73 rfl 0 rfl ?_
    refine z_iconst mx mb dL_known_74 ?_
    refine z_iconst mx mb dL_known_75 ?_
    refine z_callSI (wa := []) (wc := (wC y o4 a67 S67 tb4 K0)) (wb := []) (As := [.ref (o4 0), .int (iZ 0), .int (iZ 1)]) (rest := []) ⟨mx, mb, mml, mo, mts⟩ hK hA hE (fun sz => c_L_blockBy l hl0 D sz y o4 a67 S67 tb4 K0 0 1 (by decide) (by decide) hT67) (vx_cwSW 3 mts gL_known_L_blockBy rfl rfl rfl (by decide +kernel) ⟨Nat.le_of_ble_eq_true rfl, Nat.le_of_ble_eq_true rfl⟩) (List.append_nil _).symm rfl rfl (Nat.le_of_ble_eq_true rfl) ⟨Nat.le_of_ble_eq_true rfl, Nat.le_of_ble_eq_true rfl⟩ dL_known_76 (fun r76 u76 hu76 => ?_)
    rw [List.nil_append, List.append_nil]
    obtain ⟨a76, S76⟩ := u76
    obtain ⟨hr, hT76⟩ := hu76
    replace hT76 : Tie K0 S76 := hT76
    obtain rfl : r76 = iZ 0 := hr.trans (congrArg iZ ka_76)
    show Gz pp l ee ({ frames := 11, cells := 1600, slots := 12000, locals := 206 } : Room) ss mm args below meth cd 2 702 5155 Q (Zw D vwCl (va_A wst sz) ss (wC y o4 a76 S76 tb4 K0)) 79 [(0, .ref (o4 0))] [.int (iZ 0)]
    refine z_if_ne (tgt := 203) mx mb (by decide) dL_known_79 (by decide) (fun c79 => absurd c79 (by decide)) (fun _ => ?_)
    refine z_aload_n mx mb dL_known_82 rfl 0 rfl ?_
    refine z_iconst mx mb dL_known_83 ?_
    refine z_iconst mx mb dL_known_84 ?_
    refine z_callSI (wa := []) (wc := (wC y o4 a76 S76 tb4 K0)) (wb := []) (As := [.ref (o4 0), .int (iZ 0), .int (iZ 2)]) (rest := []) ⟨mx, mb, mml, mo, mts⟩ hK hA hE (fun sz => c_L_blockBy l hl0 D sz y o4 a76 S76 tb4 K0 0 2 (by decide) (by decide) hT76) (vx_cwSW 3 mts gL_known_L_blockBy rfl rfl rfl (by decide +kernel) ⟨Nat.le_of_ble_eq_true rfl, Nat.le_of_ble_eq_true rfl⟩) (List.append_nil _).symm rfl rfl (Nat.le_of_ble_eq_true rfl) ⟨Nat.le_of_ble_eq_true rfl, Nat.le_of_ble_eq_true rfl⟩ dL_known_85 (fun r85 u85 hu85 => ?_)
    rw [List.nil_append, List.append_nil]
    obtain ⟨a85, S85⟩ := u85
    obtain ⟨hr, hT85⟩ := hu85
    replace hT85 : Tie K0 S85 := hT85
    obtain rfl : r85 = iZ 1 := hr.trans (congrArg iZ ka_85)
    show Gz pp l ee ({ frames := 11, cells := 1600, slots := 12000, locals := 206 } : Room) ss mm args below meth cd 2 703 5161 Q (Zw D vwCl (va_A wst sz) ss (wC y o4 a85 S85 tb4 K0)) 88 [(0, .ref (o4 0))] [.int (iZ 1)]
    refine z_iconst mx mb dL_known_88 ?_
    refine z_icmp_ne (tgt := 203) mx mb (by decide) (by decide) dL_known_89 (by decide) (fun c89 => absurd c89 (by decide)) (fun _ => ?_)
    refine z_aload_n mx mb dL_known_92 rfl 0 rfl ?_
    refine z_iconst mx mb dL_known_93 ?_
    refine z_iconst mx mb dL_known_94 ?_
    refine z_callSI (wa := []) (wc := (wC y o4 a85 S85 tb4 K0)) (wb := []) (As := [.ref (o4 0), .int (iZ 1), .int (iZ 0)]) (rest := []) ⟨mx, mb, mml, mo, mts⟩ hK hA hE (fun sz => c_L_blockBy l hl0 D sz y o4 a85 S85 tb4 K0 1 0 (by decide) (by decide) hT85) (vx_cwSW 3 mts gL_known_L_blockBy rfl rfl rfl (by decide +kernel) ⟨Nat.le_of_ble_eq_true rfl, Nat.le_of_ble_eq_true rfl⟩) (List.append_nil _).symm rfl rfl (Nat.le_of_ble_eq_true rfl) ⟨Nat.le_of_ble_eq_true rfl, Nat.le_of_ble_eq_true rfl⟩ dL_known_95 (fun r95 u95 hu95 => ?_)
    rw [List.nil_append, List.append_nil]
    obtain ⟨a95, S95⟩ := u95
    obtain ⟨hr, hT95⟩ := hu95
    replace hT95 : Tie K0 S95 := hT95
    obtain rfl : r95 = iZ 1 := hr.trans (congrArg iZ ka_95)
    show Gz pp l ee ({ frames := 11, cells := 1600, slots := 12000, locals := 206 } : Room) ss mm args below meth cd 2 704 5167 Q (Zw D vwCl (va_A wst sz) ss (wC y o4 a95 S95 tb4 K0)) 98 [(0, .ref (o4 0))] [.int (iZ 1)]
    refine z_iconst mx mb dL_known_98 ?_
    refine z_icmp_ne (tgt := 203) mx mb (by decide) (by decide) dL_known_99 (by decide) (fun c99 => absurd c99 (by decide)) (fun _ => ?_)
    refine z_aload_n mx mb dL_known_102 rfl 0 rfl ?_
    refine z_iconst mx mb dL_known_103 ?_
    refine z_iconst mx mb dL_known_104 ?_
    refine z_callSI (wa := []) (wc := (wC y o4 a95 S95 tb4 K0)) (wb := []) (As := [.ref (o4 0), .int (iZ 1), .int (iZ 1)]) (rest := []) ⟨mx, mb, mml, mo, mts⟩ hK hA hE (fun sz => c_L_blockBy l hl0 D sz y o4 a95 S95 tb4 K0 1 1 (by decide) (by decide) hT95) (vx_cwSW 3 mts gL_known_L_blockBy rfl rfl rfl (by decide +kernel) ⟨Nat.le_of_ble_eq_true rfl, Nat.le_of_ble_eq_true rfl⟩) (List.append_nil _).symm rfl rfl (Nat.le_of_ble_eq_true rfl) ⟨Nat.le_of_ble_eq_true rfl, Nat.le_of_ble_eq_true rfl⟩ dL_known_105 (fun r105 u105 hu105 => ?_)
    rw [List.nil_append, List.append_nil]
    obtain ⟨a105, S105⟩ := u105
    obtain ⟨hr, hT105⟩ := hu105
    replace hT105 : Tie K0 S105 := hT105
    obtain rfl : r105 = iZ 5 := hr.trans (congrArg iZ ka_105)
    show Gz pp l ee ({ frames := 11, cells := 1600, slots := 12000, locals := 206 } : Room) ss mm args below meth cd 2 705 5173 Q (Zw D vwCl (va_A wst sz) ss (wC y o4 a105 S105 tb4 K0)) 108 [(0, .ref (o4 0))] [.int (iZ 5)]
    refine z_iconst mx mb dL_known_108 ?_
    refine z_icmp_ne (tgt := 203) mx mb (by decide) (by decide) dL_known_109 (by decide) (fun c109 => absurd c109 (by decide)) (fun _ => ?_)
    refine z_aload_n mx mb dL_known_112 rfl 0 rfl ?_
    refine z_iconst mx mb dL_known_113 ?_
    refine z_iconst mx mb dL_known_114 ?_
    refine z_callSI (wa := []) (wc := (wC y o4 a105 S105 tb4 K0)) (wb := []) (As := [.ref (o4 0), .int (iZ 1), .int (iZ 2)]) (rest := []) ⟨mx, mb, mml, mo, mts⟩ hK hA hE (fun sz => c_L_blockBy l hl0 D sz y o4 a105 S105 tb4 K0 1 2 (by decide) (by decide) hT105) (vx_cwSW 3 mts gL_known_L_blockBy rfl rfl rfl (by decide +kernel) ⟨Nat.le_of_ble_eq_true rfl, Nat.le_of_ble_eq_true rfl⟩) (List.append_nil _).symm rfl rfl (Nat.le_of_ble_eq_true rfl) ⟨Nat.le_of_ble_eq_true rfl, Nat.le_of_ble_eq_true rfl⟩ dL_known_115 (fun r115 u115 hu115 => ?_)
    rw [List.nil_append, List.append_nil]
    obtain ⟨a115, S115⟩ := u115
    obtain ⟨hr, hT115⟩ := hu115
    replace hT115 : Tie K0 S115 := hT115
    obtain rfl : r115 = iZ 5 := hr.trans (congrArg iZ ka_115)
    show Gz pp l ee ({ frames := 11, cells := 1600, slots := 12000, locals := 206 } : Room) ss mm args below meth cd 2 706 5179 Q (Zw D vwCl (va_A wst sz) ss (wC y o4 a115 S115 tb4 K0)) 118 [(0, .ref (o4 0))] [.int (iZ 5)]
    refine z_iconst mx mb dL_known_118 ?_
    refine z_icmp_ne (tgt := 203) mx mb (by decide) (by decide) dL_known_119 (by decide) (fun c119 => absurd c119 (by decide)) (fun _ => ?_)
    refine z_aload_n mx mb dL_known_122 rfl 0 rfl ?_
    refine z_iconst mx mb dL_known_123 ?_
    refine z_iconst mx mb dL_known_124 ?_
    refine z_callSI (wa := []) (wc := (wC y o4 a115 S115 tb4 K0)) (wb := []) (As := [.ref (o4 0), .int (iZ 3), .int (iZ 0)]) (rest := []) ⟨mx, mb, mml, mo, mts⟩ hK hA hE (fun sz => c_L_blockBy l hl0 D sz y o4 a115 S115 tb4 K0 3 0 (by decide) (by decide) hT115) (vx_cwSW 3 mts gL_known_L_blockBy rfl rfl rfl (by decide +kernel) ⟨Nat.le_of_ble_eq_true rfl, Nat.le_of_ble_eq_true rfl⟩) (List.append_nil _).symm rfl rfl (Nat.le_of_ble_eq_true rfl) ⟨Nat.le_of_ble_eq_true rfl, Nat.le_of_ble_eq_true rfl⟩ dL_known_125 (fun r125 u125 hu125 => ?_)
    rw [List.nil_append, List.append_nil]
    obtain ⟨a125, S125⟩ := u125
    obtain ⟨hr, hT125⟩ := hu125
    replace hT125 : Tie K0 S125 := hT125
    obtain rfl : r125 = iZ 11 := hr.trans (congrArg iZ ka_125)
    show Gz pp l ee ({ frames := 11, cells := 1600, slots := 12000, locals := 206 } : Room) ss mm args below meth cd 2 707 5185 Q (Zw D vwCl (va_A wst sz) ss (wC y o4 a125 S125 tb4 K0)) 128 [(0, .ref (o4 0))] [.int (iZ 11)]
    refine z_bipush mx mb dL_known_128 (by decide +kernel) ?_
    refine z_icmp_ne (tgt := 203) mx mb (by decide) (by decide) dL_known_130 (by decide) (fun c130 => absurd c130 (by decide)) (fun _ => ?_)
    refine z_aload_n mx mb dL_known_133 rfl 0 rfl ?_
    refine z_iconst mx mb dL_known_134 ?_
    refine z_iconst mx mb dL_known_135 ?_
    refine z_callSI (wa := []) (wc := (wC y o4 a125 S125 tb4 K0)) (wb := []) (As := [.ref (o4 0), .int (iZ 3), .int (iZ 1)]) (rest := []) ⟨mx, mb, mml, mo, mts⟩ hK hA hE (fun sz => c_L_blockBy l hl0 D sz y o4 a125 S125 tb4 K0 3 1 (by decide) (by decide) hT125) (vx_cwSW 3 mts gL_known_L_blockBy rfl rfl rfl (by decide +kernel) ⟨Nat.le_of_ble_eq_true rfl, Nat.le_of_ble_eq_true rfl⟩) (List.append_nil _).symm rfl rfl (Nat.le_of_ble_eq_true rfl) ⟨Nat.le_of_ble_eq_true rfl, Nat.le_of_ble_eq_true rfl⟩ dL_known_136 (fun r136 u136 hu136 => ?_)
    rw [List.nil_append, List.append_nil]
    obtain ⟨a136, S136⟩ := u136
    obtain ⟨hr, hT136⟩ := hu136
    replace hT136 : Tie K0 S136 := hT136
    obtain rfl : r136 = iZ 13 := hr.trans (congrArg iZ ka_136)
    show Gz pp l ee ({ frames := 11, cells := 1600, slots := 12000, locals := 206 } : Room) ss mm args below meth cd 2 708 5191 Q (Zw D vwCl (va_A wst sz) ss (wC y o4 a136 S136 tb4 K0)) 139 [(0, .ref (o4 0))] [.int (iZ 13)]
    refine z_bipush mx mb dL_known_139 (by decide +kernel) ?_
    refine z_icmp_ne (tgt := 203) mx mb (by decide) (by decide) dL_known_141 (by decide) (fun c141 => absurd c141 (by decide)) (fun _ => ?_)
    refine z_aload_n mx mb dL_known_144 rfl 0 rfl ?_
    refine z_bipush mx mb dL_known_145 (by decide +kernel) ?_
    refine z_iconst mx mb dL_known_147 ?_
    refine z_callSI (wa := []) (wc := (wC y o4 a136 S136 tb4 K0)) (wb := []) (As := [.ref (o4 0), .int (iZ 6), .int (iZ 2)]) (rest := []) ⟨mx, mb, mml, mo, mts⟩ hK hA hE (fun sz => c_L_cellBy l hl0 D sz y o4 a136 S136 tb4 K0 6 2 (by decide) (by decide) hT136) (vx_cwSW 3 mts gL_known_L_cellBy rfl rfl rfl (by decide +kernel) ⟨Nat.le_of_ble_eq_true rfl, Nat.le_of_ble_eq_true rfl⟩) (List.append_nil _).symm rfl rfl (Nat.le_of_ble_eq_true rfl) ⟨Nat.le_of_ble_eq_true rfl, Nat.le_of_ble_eq_true rfl⟩ dL_known_148 (fun r148 u148 hu148 => ?_)
    rw [List.nil_append, List.append_nil]
    obtain ⟨a148, S148⟩ := u148
    obtain ⟨hr, hT148⟩ := hu148
    replace hT148 : Tie K0 S148 := hT148
    obtain rfl : r148 = iZ 2 := hr.trans (congrArg iZ ka_148)
    show Gz pp l ee ({ frames := 11, cells := 1600, slots := 12000, locals := 206 } : Room) ss mm args below meth cd 2 709 5197 Q (Zw D vwCl (va_A wst sz) ss (wC y o4 a148 S148 tb4 K0)) 151 [(0, .ref (o4 0))] [.int (iZ 2)]
    refine z_iconst mx mb dL_known_151 ?_
    refine z_icmp_ne (tgt := 203) mx mb (by decide) (by decide) dL_known_152 (by decide) (fun c152 => absurd c152 (by decide)) (fun _ => ?_)
    refine z_aload_n mx mb dL_known_155 rfl 0 rfl ?_
    refine z_iconst mx mb dL_known_156 ?_
    refine z_iconst mx mb dL_known_157 ?_
    refine z_callSI (wa := []) (wc := (wC y o4 a148 S148 tb4 K0)) (wb := []) (As := [.ref (o4 0), .int (iZ 4), .int (iZ 1)]) (rest := []) ⟨mx, mb, mml, mo, mts⟩ hK hA hE (fun sz => c_L_cellBy l hl0 D sz y o4 a148 S148 tb4 K0 4 1 (by decide) (by decide) hT148) (vx_cwSW 3 mts gL_known_L_cellBy rfl rfl rfl (by decide +kernel) ⟨Nat.le_of_ble_eq_true rfl, Nat.le_of_ble_eq_true rfl⟩) (List.append_nil _).symm rfl rfl (Nat.le_of_ble_eq_true rfl) ⟨Nat.le_of_ble_eq_true rfl, Nat.le_of_ble_eq_true rfl⟩ dL_known_158 (fun r158 u158 hu158 => ?_)
    rw [List.nil_append, List.append_nil]
    obtain ⟨a158, S158⟩ := u158
    obtain ⟨hr, hT158⟩ := hu158
    replace hT158 : Tie K0 S158 := hT158
    obtain rfl : r158 = iZ 1 := hr.trans (congrArg iZ ka_158)
    show Gz pp l ee ({ frames := 11, cells := 1600, slots := 12000, locals := 206 } : Room) ss mm args below meth cd 2 710 5203 Q (Zw D vwCl (va_A wst sz) ss (wC y o4 a158 S158 tb4 K0)) 161 [(0, .ref (o4 0))] [.int (iZ 1)]
    refine z_iconst mx mb dL_known_161 ?_
    refine z_icmp_ne (tgt := 203) mx mb (by decide) (by decide) dL_known_162 (by decide) (fun c162 => absurd c162 (by decide)) (fun _ => ?_)
    refine z_aload_n mx mb dL_known_165 rfl 0 rfl ?_
    refine z_bipush mx mb dL_known_166 (by decide +kernel) ?_
    refine z_iconst mx mb dL_known_168 ?_
    refine z_callSI (wa := []) (wc := (wC y o4 a158 S158 tb4 K0)) (wb := []) (As := [.ref (o4 0), .int (iZ 13), .int (iZ 1)]) (rest := []) ⟨mx, mb, mml, mo, mts⟩ hK hA hE (fun sz => c_L_cellBy l hl0 D sz y o4 a158 S158 tb4 K0 13 1 (by decide) (by decide) hT158) (vx_cwSW 3 mts gL_known_L_cellBy rfl rfl rfl (by decide +kernel) ⟨Nat.le_of_ble_eq_true rfl, Nat.le_of_ble_eq_true rfl⟩) (List.append_nil _).symm rfl rfl (Nat.le_of_ble_eq_true rfl) ⟨Nat.le_of_ble_eq_true rfl, Nat.le_of_ble_eq_true rfl⟩ dL_known_169 (fun r169 u169 hu169 => ?_)
    rw [List.nil_append, List.append_nil]
    obtain ⟨a169, S169⟩ := u169
    obtain ⟨hr, hT169⟩ := hu169
    replace hT169 : Tie K0 S169 := hT169
    obtain rfl : r169 = iZ 2 := hr.trans (congrArg iZ ka_169)
    show Gz pp l ee ({ frames := 11, cells := 1600, slots := 12000, locals := 206 } : Room) ss mm args below meth cd 2 711 5209 Q (Zw D vwCl (va_A wst sz) ss (wC y o4 a169 S169 tb4 K0)) 172 [(0, .ref (o4 0))] [.int (iZ 2)]
    refine z_iconst mx mb dL_known_172 ?_
    refine z_icmp_ne (tgt := 203) mx mb (by decide) (by decide) dL_known_173 (by decide) (fun c173 => absurd c173 (by decide)) (fun _ => ?_)
    refine z_aload_n mx mb dL_known_176 rfl 0 rfl ?_
    refine z_callIE (wa := []) (wc := (wC y o4 a169 S169 tb4 K0)) (wb := []) (As := []) (rest := []) ⟨mx, mb, mml, mo, mts⟩ hK hA hE (fun sz => c_X4_mostFriction l D sz y o4 a169 S169 tb4 K0.2.2.2.1 K0.2.2.2.2 K0.2.2.1 K0.1 hT169.1.1 hT169.1.2.1 hT169.1.2.2.1) (cwV 0 mts gL_known_X4_mostFriction rfl rfl rfl (by decide +kernel) ⟨Nat.le_of_ble_eq_true rfl, Nat.le_of_ble_eq_true rfl⟩) (List.append_nil _).symm 0 wB_0 rfl rfl rfl rfl (Nat.le_of_ble_eq_true rfl) ⟨Nat.le_of_ble_eq_true rfl, Nat.le_of_ble_eq_true rfl⟩ dL_known_177 (fun r177 u177 hu177 => ?_)
    rw [List.nil_append, List.append_nil]
    obtain ⟨hr, hv0⟩ := hu177
    have hT177 : Tie K0 u177 := tie_trial hT169 hv0
    obtain rfl : r177 = iZ 20 := hr.trans (congrArg iZ qm_0)
    show Gz pp l ee ({ frames := 11, cells := 1600, slots := 12000, locals := 206 } : Room) ss mm args below meth cd 2 711 5209 Q (Zw D vwCl (va_A wst sz) ss (wC y o4 a169 u177 tb4 K0)) 180 [(0, .ref (o4 0))] [.int (iZ 20)]
    refine z_bipush mx mb dL_known_180 (by decide +kernel) ?_
    refine z_icmp_ne (tgt := 203) mx mb (by decide) (by decide) dL_known_182 (by decide) (fun c182 => absurd c182 (by decide)) (fun _ => ?_)
    refine z_aload_n mx mb dL_known_185 rfl 0 rfl ?_
    refine z_callI (wa := []) (wc := (wC y o4 a169 u177 tb4 K0)) (wb := []) (As := []) (rest := []) ⟨mx, mb, mml, mo, mts⟩ hK hA (fun sz => c_X4_ticksToValley l D sz y o4 a169 u177 tb4 K0.2.2.2.1 K0.2.2.2.2 K0.2.2.1 K0.1 hT177.1.1 hT177.1.2.1 hT177.1.2.2.1) (cwV 0 mts gL_known_X4_ticksToValley rfl rfl rfl (by decide +kernel) ⟨Nat.le_of_ble_eq_true rfl, Nat.le_of_ble_eq_true rfl⟩) (List.append_nil _).symm 0 wB_0 rfl rfl rfl rfl (Nat.le_of_ble_eq_true rfl) ⟨Nat.le_of_ble_eq_true rfl, Nat.le_of_ble_eq_true rfl⟩ dL_known_186 (fun r186 u186 hu186 => ?_)
    rw [List.nil_append, List.append_nil]
    obtain ⟨hr, hv0⟩ := hu186
    have hT186 : Tie K0 u186 := tie_trial hT177 hv0
    obtain rfl : r186 = iZ (-1) := hr.trans (congrArg iZ qv_0)
    show Gz pp l ee ({ frames := 11, cells := 1600, slots := 12000, locals := 206 } : Room) ss mm args below meth cd 2 711 5209 Q (Zw D vwCl (va_A wst sz) ss (wC y o4 a169 u186 tb4 K0)) 189 [(0, .ref (o4 0))] [.int (iZ (-1))]
    refine z_iconst mx mb dL_known_189 ?_
    refine z_icmp_ne (tgt := 203) mx mb (by decide) (by decide) dL_known_190 (by decide) (fun c190 => absurd c190 (by decide)) (fun _ => ?_)
    refine z_aload_n mx mb dL_known_193 rfl 0 rfl ?_
    refine z_callSI (wa := []) (wc := (wC y o4 a169 u186 tb4 K0)) (wb := []) (As := [.ref (o4 0)]) (rest := []) ⟨mx, mb, mml, mo, mts⟩ hK hA hE (fun sz => c_L_taking l hl0 D sz y o4 a169 u186 tb4 K0   hT186) (vx_cwSW 1 mts gL_known_L_taking rfl rfl rfl (by decide +kernel) ⟨Nat.le_of_ble_eq_true rfl, Nat.le_of_ble_eq_true rfl⟩) (List.append_nil _).symm rfl rfl (Nat.le_of_ble_eq_true rfl) ⟨Nat.le_of_ble_eq_true rfl, Nat.le_of_ble_eq_true rfl⟩ dL_known_194 (fun r194 u194 hu194 => ?_)
    rw [List.nil_append, List.append_nil]
    obtain ⟨a194, S194⟩ := u194
    obtain ⟨hr, hT194⟩ := hu194
    replace hT194 : Tie (takS K0) S194 := hT194
    obtain rfl : r194 = iZ (-3003) := hr.trans (congrArg iZ ka_194.1)
    show Gz pp l ee ({ frames := 11, cells := 1600, slots := 12000, locals := 206 } : Room) ss mm args below meth cd 2 712 5215 Q (Zw D vwCl (va_A wst sz) ss (wC y o4 a194 S194 tb4 (takS K0))) 197 [(0, .ref (o4 0))] [.int (iZ (-3003))]
    rw [ka_194.2]
    rw [ka_194.2] at hT194
    refine z_sipush mx mb dL_known_197 (by decide +kernel) ?_
    refine z_icmp_eq (tgt := 205) mx mb (by decide) (by decide) dL_known_200 (by decide) (fun _ => ?_) (fun c200 => absurd c200 (by decide))
    refine z_aload_n mx mb dL_known_205 rfl 0 rfl ?_
    refine z_iconst mx mb dL_known_206 ?_
    refine z_callSI (wa := []) (wc := (wC y o4 a194 S194 tb4 K0)) (wb := []) (As := [.ref (o4 0), .int (iZ 5)]) (rest := []) ⟨mx, mb, mml, mo, mts⟩ hK hA hE (fun sz => c_L_least l hl0 D sz y o4 a194 S194 tb4 K0 5 (by decide) hT194) (vx_cwSW 2 mts gL_known_L_least rfl rfl rfl (by decide +kernel) ⟨Nat.le_of_ble_eq_true rfl, Nat.le_of_ble_eq_true rfl⟩) (List.append_nil _).symm rfl rfl (Nat.le_of_ble_eq_true rfl) ⟨Nat.le_of_ble_eq_true rfl, Nat.le_of_ble_eq_true rfl⟩ dL_known_207 (fun r207 u207 hu207 => ?_)
    rw [List.nil_append, List.append_nil]
    obtain ⟨a207, S207⟩ := u207
    obtain ⟨hr, hT207⟩ := hu207
    replace hT207 : Tie K0 S207 := hT207
    obtain rfl : r207 = iZ 0 := hr.trans (congrArg iZ ka_207)
    show Gz pp l ee ({ frames := 11, cells := 1600, slots := 12000, locals := 206 } : Room) ss mm args below meth cd 2 713 5221 Q (Zw D vwCl (va_A wst sz) ss (wC y o4 a207 S207 tb4 K0)) 210 [(0, .ref (o4 0))] [.int (iZ 0)]
    refine z_if_ne (tgt := 294) mx mb (by decide) dL_known_210 (by decide) (fun c210 => absurd c210 (by decide)) (fun _ => ?_)
    refine z_aload_n mx mb dL_known_213 rfl 0 rfl ?_
    refine z_iconst mx mb dL_known_214 ?_
    refine z_callSI (wa := []) (wc := (wC y o4 a207 S207 tb4 K0)) (wb := []) (As := [.ref (o4 0), .int (iZ 4)]) (rest := []) ⟨mx, mb, mml, mo, mts⟩ hK hA hE (fun sz => c_L_least l hl0 D sz y o4 a207 S207 tb4 K0 4 (by decide) hT207) (vx_cwSW 2 mts gL_known_L_least rfl rfl rfl (by decide +kernel) ⟨Nat.le_of_ble_eq_true rfl, Nat.le_of_ble_eq_true rfl⟩) (List.append_nil _).symm rfl rfl (Nat.le_of_ble_eq_true rfl) ⟨Nat.le_of_ble_eq_true rfl, Nat.le_of_ble_eq_true rfl⟩ dL_known_215 (fun r215 u215 hu215 => ?_)
    rw [List.nil_append, List.append_nil]
    obtain ⟨a215, S215⟩ := u215
    obtain ⟨hr, hT215⟩ := hu215
    replace hT215 : Tie K0 S215 := hT215
    obtain rfl : r215 = iZ 3 := hr.trans (congrArg iZ ka_215)
    show Gz pp l ee ({ frames := 11, cells := 1600, slots := 12000, locals := 206 } : Room) ss mm args below meth cd 2 714 5227 Q (Zw D vwCl (va_A wst sz) ss (wC y o4 a215 S215 tb4 K0)) 218 [(0, .ref (o4 0))] [.int (iZ 3)]
    refine z_iconst mx mb dL_known_218 ?_
    refine z_icmp_ne (tgt := 294) mx mb (by decide) (by decide) dL_known_219 (by decide) (fun c219 => absurd c219 (by decide)) (fun _ => ?_)
    refine z_aload_n mx mb dL_known_222 rfl 0 rfl ?_
    refine z_iconst mx mb dL_known_223 ?_
    refine z_callSI (wa := []) (wc := (wC y o4 a215 S215 tb4 K0)) (wb := []) (As := [.ref (o4 0), .int (iZ 3)]) (rest := []) ⟨mx, mb, mml, mo, mts⟩ hK hA hE (fun sz => c_L_least l hl0 D sz y o4 a215 S215 tb4 K0 3 (by decide) hT215) (vx_cwSW 2 mts gL_known_L_least rfl rfl rfl (by decide +kernel) ⟨Nat.le_of_ble_eq_true rfl, Nat.le_of_ble_eq_true rfl⟩) (List.append_nil _).symm rfl rfl (Nat.le_of_ble_eq_true rfl) ⟨Nat.le_of_ble_eq_true rfl, Nat.le_of_ble_eq_true rfl⟩ dL_known_224 (fun r224 u224 hu224 => ?_)
    rw [List.nil_append, List.append_nil]
    obtain ⟨a224, S224⟩ := u224
    obtain ⟨hr, hT224⟩ := hu224
    replace hT224 : Tie K0 S224 := hT224
    obtain rfl : r224 = iZ 0 := hr.trans (congrArg iZ ka_224)
    show Gz pp l ee ({ frames := 11, cells := 1600, slots := 12000, locals := 206 } : Room) ss mm args below meth cd 2 715 5233 Q (Zw D vwCl (va_A wst sz) ss (wC y o4 a224 S224 tb4 K0)) 227 [(0, .ref (o4 0))] [.int (iZ 0)]
    refine z_if_ne (tgt := 294) mx mb (by decide) dL_known_227 (by decide) (fun c227 => absurd c227 (by decide)) (fun _ => ?_)
    refine z_aload_n mx mb dL_known_230 rfl 0 rfl ?_
    refine z_bipush mx mb dL_known_231 (by decide +kernel) ?_
    refine z_callSI (wa := []) (wc := (wC y o4 a224 S224 tb4 K0)) (wb := []) (As := [.ref (o4 0), .int (iZ 9)]) (rest := []) ⟨mx, mb, mml, mo, mts⟩ hK hA hE (fun sz => c_L_least l hl0 D sz y o4 a224 S224 tb4 K0 9 (by decide) hT224) (vx_cwSW 2 mts gL_known_L_least rfl rfl rfl (by decide +kernel) ⟨Nat.le_of_ble_eq_true rfl, Nat.le_of_ble_eq_true rfl⟩) (List.append_nil _).symm rfl rfl (Nat.le_of_ble_eq_true rfl) ⟨Nat.le_of_ble_eq_true rfl, Nat.le_of_ble_eq_true rfl⟩ dL_known_233 (fun r233 u233 hu233 => ?_)
    rw [List.nil_append, List.append_nil]
    obtain ⟨a233, S233⟩ := u233
    obtain ⟨hr, hT233⟩ := hu233
    replace hT233 : Tie K0 S233 := hT233
    obtain rfl : r233 = iZ 203 := hr.trans (congrArg iZ ka_233)
    show Gz pp l ee ({ frames := 11, cells := 1600, slots := 12000, locals := 206 } : Room) ss mm args below meth cd 2 716 5239 Q (Zw D vwCl (va_A wst sz) ss (wC y o4 a233 S233 tb4 K0)) 236 [(0, .ref (o4 0))] [.int (iZ 203)]
    refine z_sipush mx mb dL_known_236 (by decide +kernel) ?_
    refine z_icmp_ne (tgt := 294) mx mb (by decide) (by decide) dL_known_239 (by decide) (fun c239 => absurd c239 (by decide)) (fun _ => ?_)
    refine z_aload_n mx mb dL_known_242 rfl 0 rfl ?_
    refine z_bipush mx mb dL_known_243 (by decide +kernel) ?_
    refine z_callSI (wa := []) (wc := (wC y o4 a233 S233 tb4 K0)) (wb := []) (As := [.ref (o4 0), .int (iZ 8)]) (rest := []) ⟨mx, mb, mml, mo, mts⟩ hK hA hE (fun sz => c_L_least l hl0 D sz y o4 a233 S233 tb4 K0 8 (by decide) hT233) (vx_cwSW 2 mts gL_known_L_least rfl rfl rfl (by decide +kernel) ⟨Nat.le_of_ble_eq_true rfl, Nat.le_of_ble_eq_true rfl⟩) (List.append_nil _).symm rfl rfl (Nat.le_of_ble_eq_true rfl) ⟨Nat.le_of_ble_eq_true rfl, Nat.le_of_ble_eq_true rfl⟩ dL_known_245 (fun r245 u245 hu245 => ?_)
    rw [List.nil_append, List.append_nil]
    obtain ⟨a245, S245⟩ := u245
    obtain ⟨hr, hT245⟩ := hu245
    replace hT245 : Tie K0 S245 := hT245
    obtain rfl : r245 = iZ 106 := hr.trans (congrArg iZ ka_245)
    show Gz pp l ee ({ frames := 11, cells := 1600, slots := 12000, locals := 206 } : Room) ss mm args below meth cd 2 717 5245 Q (Zw D vwCl (va_A wst sz) ss (wC y o4 a245 S245 tb4 K0)) 248 [(0, .ref (o4 0))] [.int (iZ 106)]
    refine z_bipush mx mb dL_known_248 (by decide +kernel) ?_
    refine z_icmp_ne (tgt := 294) mx mb (by decide) (by decide) dL_known_250 (by decide) (fun c250 => absurd c250 (by decide)) (fun _ => ?_)
    refine z_aload_n mx mb dL_known_253 rfl 0 rfl ?_
    refine z_bipush mx mb dL_known_254 (by decide +kernel) ?_
    refine z_callSI (wa := []) (wc := (wC y o4 a245 S245 tb4 K0)) (wb := []) (As := [.ref (o4 0), .int (iZ 7)]) (rest := []) ⟨mx, mb, mml, mo, mts⟩ hK hA hE (fun sz => c_L_least l hl0 D sz y o4 a245 S245 tb4 K0 7 (by decide) hT245) (vx_cwSW 2 mts gL_known_L_least rfl rfl rfl (by decide +kernel) ⟨Nat.le_of_ble_eq_true rfl, Nat.le_of_ble_eq_true rfl⟩) (List.append_nil _).symm rfl rfl (Nat.le_of_ble_eq_true rfl) ⟨Nat.le_of_ble_eq_true rfl, Nat.le_of_ble_eq_true rfl⟩ dL_known_256 (fun r256 u256 hu256 => ?_)
    rw [List.nil_append, List.append_nil]
    obtain ⟨a256, S256⟩ := u256
    obtain ⟨hr, hT256⟩ := hu256
    replace hT256 : Tie K0 S256 := hT256
    obtain rfl : r256 = iZ 309 := hr.trans (congrArg iZ ka_256)
    show Gz pp l ee ({ frames := 11, cells := 1600, slots := 12000, locals := 206 } : Room) ss mm args below meth cd 2 718 5251 Q (Zw D vwCl (va_A wst sz) ss (wC y o4 a256 S256 tb4 K0)) 259 [(0, .ref (o4 0))] [.int (iZ 309)]
    refine z_sipush mx mb dL_known_259 (by decide +kernel) ?_
    refine z_icmp_ne (tgt := 294) mx mb (by decide) (by decide) dL_known_262 (by decide) (fun c262 => absurd c262 (by decide)) (fun _ => ?_)
    refine z_aload_n mx mb dL_known_265 rfl 0 rfl ?_
    refine z_bipush mx mb dL_known_266 (by decide +kernel) ?_
    refine z_callSI (wa := []) (wc := (wC y o4 a256 S256 tb4 K0)) (wb := []) (As := [.ref (o4 0), .int (iZ 6)]) (rest := []) ⟨mx, mb, mml, mo, mts⟩ hK hA hE (fun sz => c_L_least l hl0 D sz y o4 a256 S256 tb4 K0 6 (by decide) hT256) (vx_cwSW 2 mts gL_known_L_least rfl rfl rfl (by decide +kernel) ⟨Nat.le_of_ble_eq_true rfl, Nat.le_of_ble_eq_true rfl⟩) (List.append_nil _).symm rfl rfl (Nat.le_of_ble_eq_true rfl) ⟨Nat.le_of_ble_eq_true rfl, Nat.le_of_ble_eq_true rfl⟩ dL_known_268 (fun r268 u268 hu268 => ?_)
    rw [List.nil_append, List.append_nil]
    obtain ⟨a268, S268⟩ := u268
    obtain ⟨hr, hT268⟩ := hu268
    replace hT268 : Tie K0 S268 := hT268
    obtain rfl : r268 = iZ 12 := hr.trans (congrArg iZ ka_268)
    show Gz pp l ee ({ frames := 11, cells := 1600, slots := 12000, locals := 206 } : Room) ss mm args below meth cd 2 719 5257 Q (Zw D vwCl (va_A wst sz) ss (wC y o4 a268 S268 tb4 K0)) 271 [(0, .ref (o4 0))] [.int (iZ 12)]
    refine z_bipush mx mb dL_known_271 (by decide +kernel) ?_
    refine z_icmp_ne (tgt := 294) mx mb (by decide) (by decide) dL_known_273 (by decide) (fun c273 => absurd c273 (by decide)) (fun _ => ?_)
    refine z_aload_n mx mb dL_known_276 rfl 0 rfl ?_
    refine z_bipush mx mb dL_known_277 (by decide +kernel) ?_
    refine z_callSI (wa := []) (wc := (wC y o4 a268 S268 tb4 K0)) (wb := []) (As := [.ref (o4 0), .int (iZ 12)]) (rest := []) ⟨mx, mb, mml, mo, mts⟩ hK hA hE (fun sz => c_L_least l hl0 D sz y o4 a268 S268 tb4 K0 12 (by decide) hT268) (vx_cwSW 2 mts gL_known_L_least rfl rfl rfl (by decide +kernel) ⟨Nat.le_of_ble_eq_true rfl, Nat.le_of_ble_eq_true rfl⟩) (List.append_nil _).symm rfl rfl (Nat.le_of_ble_eq_true rfl) ⟨Nat.le_of_ble_eq_true rfl, Nat.le_of_ble_eq_true rfl⟩ dL_known_279 (fun r279 u279 hu279 => ?_)
    rw [List.nil_append, List.append_nil]
    obtain ⟨a279, S279⟩ := u279
    obtain ⟨hr, hT279⟩ := hu279
    replace hT279 : Tie K0 S279 := hT279
    obtain rfl : r279 = iZ 0 := hr.trans (congrArg iZ ka_279)
    show Gz pp l ee ({ frames := 11, cells := 1600, slots := 12000, locals := 206 } : Room) ss mm args below meth cd 2 720 5263 Q (Zw D vwCl (va_A wst sz) ss (wC y o4 a279 S279 tb4 K0)) 282 [(0, .ref (o4 0))] [.int (iZ 0)]
    refine z_if_ne (tgt := 294) mx mb (by decide) dL_known_282 (by decide) (fun c282 => absurd c282 (by decide)) (fun _ => ?_)
    refine z_aload_n mx mb dL_known_285 rfl 0 rfl ?_
    refine z_bipush mx mb dL_known_286 (by decide +kernel) ?_
    refine z_callSI (wa := []) (wc := (wC y o4 a279 S279 tb4 K0)) (wb := []) (As := [.ref (o4 0), .int (iZ 11)]) (rest := []) ⟨mx, mb, mml, mo, mts⟩ hK hA hE (fun sz => c_L_least l hl0 D sz y o4 a279 S279 tb4 K0 11 (by decide) hT279) (vx_cwSW 2 mts gL_known_L_least rfl rfl rfl (by decide +kernel) ⟨Nat.le_of_ble_eq_true rfl, Nat.le_of_ble_eq_true rfl⟩) (List.append_nil _).symm rfl rfl (Nat.le_of_ble_eq_true rfl) ⟨Nat.le_of_ble_eq_true rfl, Nat.le_of_ble_eq_true rfl⟩ dL_known_288 (fun r288 u288 hu288 => ?_)
    rw [List.nil_append, List.append_nil]
    obtain ⟨a288, S288⟩ := u288
    obtain ⟨hr, hT288⟩ := hu288
    replace hT288 : Tie K0 S288 := hT288
    obtain rfl : r288 = iZ 0 := hr.trans (congrArg iZ ka_288)
    show Gz pp l ee ({ frames := 11, cells := 1600, slots := 12000, locals := 206 } : Room) ss mm args below meth cd 2 721 5269 Q (Zw D vwCl (va_A wst sz) ss (wC y o4 a288 S288 tb4 K0)) 291 [(0, .ref (o4 0))] [.int (iZ 0)]
    refine z_if_eq (tgt := 296) mx mb (by decide) dL_known_291 (by decide) (fun _ => ?_) (fun c291 => absurd c291 (by decide))
    refine z_aload_n mx mb dL_known_296 rfl 0 rfl ?_
    refine z_iconst mx mb dL_known_297 ?_
    refine z_callSI (wa := []) (wc := (wC y o4 a288 S288 tb4 K0)) (wb := []) (As := [.ref (o4 0), .int (iZ 0)]) (rest := []) ⟨mx, mb, mml, mo, mts⟩ hK hA hE (fun sz => c_L_adding l hl0 D sz y o4 a288 S288 tb4 K0 0 (by decide) hT288) (vx_cwSW 2 mts gL_known_L_adding rfl rfl rfl (by decide +kernel) ⟨Nat.le_of_ble_eq_true rfl, Nat.le_of_ble_eq_true rfl⟩) (List.append_nil _).symm rfl rfl (Nat.le_of_ble_eq_true rfl) ⟨Nat.le_of_ble_eq_true rfl, Nat.le_of_ble_eq_true rfl⟩ dL_known_298 (fun r298 u298 hu298 => ?_)
    rw [List.nil_append, List.append_nil]
    obtain ⟨a298, S298⟩ := u298
    obtain ⟨hr, hT298⟩ := hu298
    replace hT298 : Tie (addS K0 0) S298 := hT298
    obtain rfl : r298 = iZ 0 := hr.trans (congrArg iZ kv_K1)
    show Gz pp l ee ({ frames := 11, cells := 1600, slots := 12000, locals := 206 } : Room) ss mm args below meth cd 2 722 5275 Q (Zw D vwCl (va_A wst sz) ss (wC y o4 a298 S298 tb4 (addS K0 0))) 301 [(0, .ref (o4 0))] [.int (iZ 0)]
    replace hT298 : Tie K1 S298 := kt_K1 hT298
    rw [show wC y o4 a298 S298 tb4 (addS K0 0) = wC y o4 a298 S298 tb4 K1 from (wC_nxt ..).symm]
    refine z_if_ne (tgt := 570) mx mb (by decide) dL_known_301 (by decide) (fun c301 => absurd c301 (by decide)) (fun _ => ?_)
    refine z_aload_n mx mb dL_known_304 rfl 0 rfl ?_
    refine z_iconst mx mb dL_known_305 ?_
    refine z_callSI (wa := []) (wc := (wC y o4 a298 S298 tb4 K1)) (wb := []) (As := [.ref (o4 0), .int (iZ 0)]) (rest := []) ⟨mx, mb, mml, mo, mts⟩ hK hA hE (fun sz => c_L_adding l hl0 D sz y o4 a298 S298 tb4 K1 0 (by decide) hT298) (vx_cwSW 2 mts gL_known_L_adding rfl rfl rfl (by decide +kernel) ⟨Nat.le_of_ble_eq_true rfl, Nat.le_of_ble_eq_true rfl⟩) (List.append_nil _).symm rfl rfl (Nat.le_of_ble_eq_true rfl) ⟨Nat.le_of_ble_eq_true rfl, Nat.le_of_ble_eq_true rfl⟩ dL_known_306 (fun r306 u306 hu306 => ?_)
    rw [List.nil_append, List.append_nil]
    obtain ⟨a306, S306⟩ := u306
    obtain ⟨hr, hT306⟩ := hu306
    replace hT306 : Tie (addS K1 0) S306 := hT306
    obtain rfl : r306 = iZ (-3003) := hr.trans (congrArg iZ ka_306.1)
    show Gz pp l ee ({ frames := 11, cells := 1600, slots := 12000, locals := 206 } : Room) ss mm args below meth cd 2 723 5281 Q (Zw D vwCl (va_A wst sz) ss (wC y o4 a306 S306 tb4 (addS K1 0))) 309 [(0, .ref (o4 0))] [.int (iZ (-3003))]
    rw [ka_306.2]
    rw [ka_306.2] at hT306
    refine z_sipush mx mb dL_known_309 (by decide +kernel) ?_
    refine z_icmp_ne (tgt := 570) mx mb (by decide) (by decide) dL_known_312 (by decide) (fun c312 => absurd c312 (by decide)) (fun _ => ?_)
    refine z_aload_n mx mb dL_known_315 rfl 0 rfl ?_
    refine z_iconst mx mb dL_known_316 ?_
    refine z_bipush mx mb dL_known_317 (by decide +kernel) ?_
    refine z_callSI (wa := []) (wc := (wC y o4 a306 S306 tb4 K1)) (wb := []) (As := [.ref (o4 0), .int (iZ 0), .int (iZ 7)]) (rest := []) ⟨mx, mb, mml, mo, mts⟩ hK hA hE (fun sz => c_L_trainBy l hl0 D sz y o4 a306 S306 tb4 K1 0 7 (by decide) (by decide) hT306) (vx_cwSW 3 mts gL_known_L_trainBy rfl rfl rfl (by decide +kernel) ⟨Nat.le_of_ble_eq_true rfl, Nat.le_of_ble_eq_true rfl⟩) (List.append_nil _).symm rfl rfl (Nat.le_of_ble_eq_true rfl) ⟨Nat.le_of_ble_eq_true rfl, Nat.le_of_ble_eq_true rfl⟩ dL_known_319 (fun r319 u319 hu319 => ?_)
    rw [List.nil_append, List.append_nil]
    obtain ⟨a319, S319⟩ := u319
    obtain ⟨hr, hT319⟩ := hu319
    replace hT319 : Tie K1 S319 := hT319
    obtain rfl : r319 = iZ 7 := hr.trans (congrArg iZ ka_319)
    show Gz pp l ee ({ frames := 11, cells := 1600, slots := 12000, locals := 206 } : Room) ss mm args below meth cd 2 724 5287 Q (Zw D vwCl (va_A wst sz) ss (wC y o4 a319 S319 tb4 K1)) 322 [(0, .ref (o4 0))] [.int (iZ 7)]
    refine z_bipush mx mb dL_known_322 (by decide +kernel) ?_
    refine z_icmp_ne (tgt := 570) mx mb (by decide) (by decide) dL_known_324 (by decide) (fun c324 => absurd c324 (by decide)) (fun _ => ?_)
    refine z_aload_n mx mb dL_known_327 rfl 0 rfl ?_
    refine z_iconst mx mb dL_known_328 ?_
    refine z_iconst mx mb dL_known_329 ?_
    refine z_callSI (wa := []) (wc := (wC y o4 a319 S319 tb4 K1)) (wb := []) (As := [.ref (o4 0), .int (iZ 0), .int (iZ 4)]) (rest := []) ⟨mx, mb, mml, mo, mts⟩ hK hA hE (fun sz => c_L_trainBy l hl0 D sz y o4 a319 S319 tb4 K1 0 4 (by decide) (by decide) hT319) (vx_cwSW 3 mts gL_known_L_trainBy rfl rfl rfl (by decide +kernel) ⟨Nat.le_of_ble_eq_true rfl, Nat.le_of_ble_eq_true rfl⟩) (List.append_nil _).symm rfl rfl (Nat.le_of_ble_eq_true rfl) ⟨Nat.le_of_ble_eq_true rfl, Nat.le_of_ble_eq_true rfl⟩ dL_known_330 (fun r330 u330 hu330 => ?_)
    rw [List.nil_append, List.append_nil]
    obtain ⟨a330, S330⟩ := u330
    obtain ⟨hr, hT330⟩ := hu330
    replace hT330 : Tie K1 S330 := hT330
    obtain rfl : r330 = iZ 20 := hr.trans (congrArg iZ ka_330)
    show Gz pp l ee ({ frames := 11, cells := 1600, slots := 12000, locals := 206 } : Room) ss mm args below meth cd 2 725 5293 Q (Zw D vwCl (va_A wst sz) ss (wC y o4 a330 S330 tb4 K1)) 333 [(0, .ref (o4 0))] [.int (iZ 20)]
    refine z_bipush mx mb dL_known_333 (by decide +kernel) ?_
    refine z_icmp_ne (tgt := 570) mx mb (by decide) (by decide) dL_known_335 (by decide) (fun c335 => absurd c335 (by decide)) (fun _ => ?_)
    refine z_aload_n mx mb dL_known_338 rfl 0 rfl ?_
    refine z_iconst mx mb dL_known_339 ?_
    refine z_callSI (wa := []) (wc := (wC y o4 a330 S330 tb4 K1)) (wb := []) (As := [.ref (o4 0), .int (iZ 0)]) (rest := []) ⟨mx, mb, mml, mo, mts⟩ hK hA hE (fun sz => c_L_reason l hl0 D sz y o4 a330 S330 tb4 K1 0 (by decide) hT330) (vx_cwSW 2 mts gL_known_L_reason rfl rfl rfl (by decide +kernel) ⟨Nat.le_of_ble_eq_true rfl, Nat.le_of_ble_eq_true rfl⟩) (List.append_nil _).symm rfl rfl (Nat.le_of_ble_eq_true rfl) ⟨Nat.le_of_ble_eq_true rfl, Nat.le_of_ble_eq_true rfl⟩ dL_known_340 (fun r340 u340 hu340 => ?_)
    rw [List.nil_append, List.append_nil]
    obtain ⟨a340, S340⟩ := u340
    obtain ⟨hr, hT340⟩ := hu340
    replace hT340 : Tie K1 S340 := hT340
    obtain rfl : r340 = iZ 3 := hr.trans (congrArg iZ ka_340)
    show Gz pp l ee ({ frames := 11, cells := 1600, slots := 12000, locals := 206 } : Room) ss mm args below meth cd 2 726 5299 Q (Zw D vwCl (va_A wst sz) ss (wC y o4 a340 S340 tb4 K1)) 343 [(0, .ref (o4 0))] [.int (iZ 3)]
    refine z_iconst mx mb dL_known_343 ?_
    refine z_icmp_ne (tgt := 570) mx mb (by decide) (by decide) dL_known_344 (by decide) (fun c344 => absurd c344 (by decide)) (fun _ => ?_)
    refine z_aload_n mx mb dL_known_347 rfl 0 rfl ?_
    refine z_callI (wa := []) (wc := (wC y o4 a340 S340 tb4 K1)) (wb := []) (As := []) (rest := []) ⟨mx, mb, mml, mo, mts⟩ hK hA (fun sz => c_X4_ticksToValley l D sz y o4 a340 S340 tb4 K1.2.2.2.1 K1.2.2.2.2 K1.2.2.1 K1.1 hT340.1.1 hT340.1.2.1 hT340.1.2.2.1) (cwV 0 mts gL_known_X4_ticksToValley rfl rfl rfl (by decide +kernel) ⟨Nat.le_of_ble_eq_true rfl, Nat.le_of_ble_eq_true rfl⟩) (List.append_nil _).symm 0 wB_0 rfl rfl rfl rfl (Nat.le_of_ble_eq_true rfl) ⟨Nat.le_of_ble_eq_true rfl, Nat.le_of_ble_eq_true rfl⟩ dL_known_348 (fun r348 u348 hu348 => ?_)
    rw [List.nil_append, List.append_nil]
    obtain ⟨hr, hv0⟩ := hu348
    have hT348 : Tie K1 u348 := tie_trial hT340 hv0
    obtain rfl : r348 = iZ (-1) := hr.trans (congrArg iZ (qv_1 hT340.1.2))
    show Gz pp l ee ({ frames := 11, cells := 1600, slots := 12000, locals := 206 } : Room) ss mm args below meth cd 2 726 5299 Q (Zw D vwCl (va_A wst sz) ss (wC y o4 a340 u348 tb4 K1)) 351 [(0, .ref (o4 0))] [.int (iZ (-1))]
    refine z_iconst mx mb dL_known_351 ?_
    refine z_icmp_ne (tgt := 570) mx mb (by decide) (by decide) dL_known_352 (by decide) (fun c352 => absurd c352 (by decide)) (fun _ => ?_)
    refine z_aload_n mx mb dL_known_355 rfl 0 rfl ?_
    refine z_iconst mx mb dL_known_356 ?_
    refine z_callSI (wa := []) (wc := (wC y o4 a340 u348 tb4 K1)) (wb := []) (As := [.ref (o4 0), .int (iZ 0)]) (rest := []) ⟨mx, mb, mml, mo, mts⟩ hK hA hE (fun sz => c_L_toStation l hl0 D sz y o4 a340 u348 tb4 K1 0 (by decide) hT348) (vx_cwSW 2 mts gL_known_L_toStation rfl rfl rfl (by decide +kernel) ⟨Nat.le_of_ble_eq_true rfl, Nat.le_of_ble_eq_true rfl⟩) (List.append_nil _).symm rfl rfl (Nat.le_of_ble_eq_true rfl) ⟨Nat.le_of_ble_eq_true rfl, Nat.le_of_ble_eq_true rfl⟩ dL_known_357 (fun r357 u357 hu357 => ?_)
    rw [List.nil_append, List.append_nil]
    obtain ⟨a357, S357⟩ := u357
    obtain ⟨hr, hT357⟩ := hu357
    replace hT357 : Tie K1 S357 := hT357
    obtain rfl : r357 = iZ 202 := hr.trans (congrArg iZ (qs_1 hT348.1.2))
    show Gz pp l ee ({ frames := 11, cells := 1600, slots := 12000, locals := 206 } : Room) ss mm args below meth cd 2 727 5305 Q (Zw D vwCl (va_A wst sz) ss (wC y o4 a357 S357 tb4 K1)) 360 [(0, .ref (o4 0))] [.int (iZ 202)]
    refine z_sipush mx mb dL_known_360 (by decide +kernel) ?_
    refine z_icmp_ne (tgt := 570) mx mb (by decide) (by decide) dL_known_363 (by decide) (fun c363 => absurd c363 (by decide)) (fun _ => ?_)
    refine z_aload_n mx mb dL_known_366 rfl 0 rfl ?_
    refine z_iconst mx mb dL_known_367 ?_
    refine z_callSI (wa := []) (wc := (wC y o4 a357 S357 tb4 K1)) (wb := []) (As := [.ref (o4 0), .int (iZ 0)]) (rest := []) ⟨mx, mb, mml, mo, mts⟩ hK hA hE (fun sz => c_L_sentWith l hl0 D sz y o4 a357 S357 tb4 K1 0 (by decide) hT357) (vx_cwSW 2 mts gL_known_L_sentWith rfl rfl rfl (by decide +kernel) ⟨Nat.le_of_ble_eq_true rfl, Nat.le_of_ble_eq_true rfl⟩) (List.append_nil _).symm rfl rfl (Nat.le_of_ble_eq_true rfl) ⟨Nat.le_of_ble_eq_true rfl, Nat.le_of_ble_eq_true rfl⟩ dL_known_368 (fun r368 u368 hu368 => ?_)
    rw [List.nil_append, List.append_nil]
    obtain ⟨a368, S368⟩ := u368
    obtain ⟨hr, hT368⟩ := hu368
    replace hT368 : Tie K1 S368 := hT368
    obtain rfl : r368 = iZ 5 := hr.trans (congrArg iZ (qw_1_0 hT357.1.2))
    show Gz pp l ee ({ frames := 11, cells := 1600, slots := 12000, locals := 206 } : Room) ss mm args below meth cd 2 728 5311 Q (Zw D vwCl (va_A wst sz) ss (wC y o4 a368 S368 tb4 K1)) 371 [(0, .ref (o4 0))] [.int (iZ 5)]
    refine z_iconst mx mb dL_known_371 ?_
    refine z_icmp_ne (tgt := 570) mx mb (by decide) (by decide) dL_known_372 (by decide) (fun c372 => absurd c372 (by decide)) (fun _ => ?_)
    refine z_aload_n mx mb dL_known_375 rfl 0 rfl ?_
    refine z_sipush mx mb dL_known_376 (by decide +kernel) ?_
    refine z_callSI (wa := []) (wc := (wC y o4 a368 S368 tb4 K1)) (wb := []) (As := [.ref (o4 0), .int (iZ 500)]) (rest := []) ⟨mx, mb, mml, mo, mts⟩ hK hA hE (fun sz => c_L_sentWith l hl0 D sz y o4 a368 S368 tb4 K1 500 (by decide) hT368) (vx_cwSW 2 mts gL_known_L_sentWith rfl rfl rfl (by decide +kernel) ⟨Nat.le_of_ble_eq_true rfl, Nat.le_of_ble_eq_true rfl⟩) (List.append_nil _).symm rfl rfl (Nat.le_of_ble_eq_true rfl) ⟨Nat.le_of_ble_eq_true rfl, Nat.le_of_ble_eq_true rfl⟩ dL_known_379 (fun r379 u379 hu379 => ?_)
    rw [List.nil_append, List.append_nil]
    obtain ⟨a379, S379⟩ := u379
    obtain ⟨hr, hT379⟩ := hu379
    replace hT379 : Tie K1 S379 := hT379
    obtain rfl : r379 = iZ 2 := hr.trans (congrArg iZ (qw_1_500 hT368.1.2))
    show Gz pp l ee ({ frames := 11, cells := 1600, slots := 12000, locals := 206 } : Room) ss mm args below meth cd 2 729 5317 Q (Zw D vwCl (va_A wst sz) ss (wC y o4 a379 S379 tb4 K1)) 382 [(0, .ref (o4 0))] [.int (iZ 2)]
    refine z_iconst mx mb dL_known_382 ?_
    refine z_icmp_ne (tgt := 570) mx mb (by decide) (by decide) dL_known_383 (by decide) (fun c383 => absurd c383 (by decide)) (fun _ => ?_)
    refine z_aload_n mx mb dL_known_386 rfl 0 rfl ?_
    refine z_callIE (wa := []) (wc := (wC y o4 a379 S379 tb4 K1)) (wb := []) (As := []) (rest := []) ⟨mx, mb, mml, mo, mts⟩ hK hA hE (fun sz => c_X4_mostFriction l D sz y o4 a379 S379 tb4 K1.2.2.2.1 K1.2.2.2.2 K1.2.2.1 K1.1 hT379.1.1 hT379.1.2.1 hT379.1.2.2.1) (cwV 0 mts gL_known_X4_mostFriction rfl rfl rfl (by decide +kernel) ⟨Nat.le_of_ble_eq_true rfl, Nat.le_of_ble_eq_true rfl⟩) (List.append_nil _).symm 0 wB_0 rfl rfl rfl rfl (Nat.le_of_ble_eq_true rfl) ⟨Nat.le_of_ble_eq_true rfl, Nat.le_of_ble_eq_true rfl⟩ dL_known_387 (fun r387 u387 hu387 => ?_)
    rw [List.nil_append, List.append_nil]
    obtain ⟨hr, hv0⟩ := hu387
    have hT387 : Tie K1 u387 := tie_trial hT379 hv0
    obtain rfl : r387 = iZ 20 := hr.trans (congrArg iZ (qm_1 hT379.1.2))
    show Gz pp l ee ({ frames := 11, cells := 1600, slots := 12000, locals := 206 } : Room) ss mm args below meth cd 2 729 5317 Q (Zw D vwCl (va_A wst sz) ss (wC y o4 a379 u387 tb4 K1)) 390 [(0, .ref (o4 0))] [.int (iZ 20)]
    refine z_bipush mx mb dL_known_390 (by decide +kernel) ?_
    refine z_icmp_ne (tgt := 570) mx mb (by decide) (by decide) dL_known_392 (by decide) (fun c392 => absurd c392 (by decide)) (fun _ => ?_)
    refine z_aload_n mx mb dL_known_395 rfl 0 rfl ?_
    refine z_iconst mx mb dL_known_396 ?_
    refine z_callSI (wa := []) (wc := (wC y o4 a379 u387 tb4 K1)) (wb := []) (As := [.ref (o4 0), .int (iZ 0)]) (rest := []) ⟨mx, mb, mml, mo, mts⟩ hK hA hE (fun sz => c_L_rescuing l hl0 D sz y o4 a379 u387 tb4 K1 0 (by decide) hT387) (vx_cwSW 2 mts gL_known_L_rescuing rfl rfl rfl (by decide +kernel) ⟨Nat.le_of_ble_eq_true rfl, Nat.le_of_ble_eq_true rfl⟩) (List.append_nil _).symm rfl rfl (Nat.le_of_ble_eq_true rfl) ⟨Nat.le_of_ble_eq_true rfl, Nat.le_of_ble_eq_true rfl⟩ dL_known_397 (fun r397 u397 hu397 => ?_)
    rw [List.nil_append, List.append_nil]
    obtain ⟨a397, S397⟩ := u397
    obtain ⟨hr, hT397⟩ := hu397
    replace hT397 : Tie (resS K1 0) S397 := hT397
    obtain rfl : r397 = iZ (-3003) := hr.trans (congrArg iZ ka_397.1)
    show Gz pp l ee ({ frames := 11, cells := 1600, slots := 12000, locals := 206 } : Room) ss mm args below meth cd 2 730 5323 Q (Zw D vwCl (va_A wst sz) ss (wC y o4 a397 S397 tb4 (resS K1 0))) 400 [(0, .ref (o4 0))] [.int (iZ (-3003))]
    rw [ka_397.2]
    rw [ka_397.2] at hT397
    refine z_sipush mx mb dL_known_400 (by decide +kernel) ?_
    refine z_icmp_ne (tgt := 570) mx mb (by decide) (by decide) dL_known_403 (by decide) (fun c403 => absurd c403 (by decide)) (fun _ => ?_)
    refine z_aload_n mx mb dL_known_406 rfl 0 rfl ?_
    refine z_iconst mx mb dL_known_407 ?_
    refine z_callSI (wa := []) (wc := (wC y o4 a397 S397 tb4 K1)) (wb := []) (As := [.ref (o4 0), .int (iZ 4)]) (rest := []) ⟨mx, mb, mml, mo, mts⟩ hK hA hE (fun sz => c_L_passing l hl0 D sz y o4 a397 S397 tb4 K1 4 (by decide) hT397) (vx_cwSW 2 mts gL_known_L_passing rfl rfl rfl (by decide +kernel) ⟨Nat.le_of_ble_eq_true rfl, Nat.le_of_ble_eq_true rfl⟩) (List.append_nil _).symm rfl rfl (Nat.le_of_ble_eq_true rfl) ⟨Nat.le_of_ble_eq_true rfl, Nat.le_of_ble_eq_true rfl⟩ dL_known_408 (fun r408 u408 hu408 => ?_)
    rw [List.nil_append, List.append_nil]
    obtain ⟨a408, S408⟩ := u408
    obtain ⟨hr, hT408⟩ := hu408
    replace hT408 : Tie (pasS K1 4) S408 := hT408
    obtain rfl : r408 = iZ 0 := hr.trans (congrArg iZ (kp_K2 hT397.1.2).2)
    show Gz pp l ee ({ frames := 11, cells := 1600, slots := 12000, locals := 206 } : Room) ss mm args below meth cd 2 731 5329 Q (Zw D vwCl (va_A wst sz) ss (wC y o4 a408 S408 tb4 (pasS K1 4))) 411 [(0, .ref (o4 0))] [.int (iZ 0)]
    replace hT408 : Tie K2 S408 := kt_K2 hT397 hT408
    rw [show wC y o4 a408 S408 tb4 (pasS K1 4) = wC y o4 a408 S408 tb4 K2 from (wC_nxt ..).symm]
    refine z_if_ne (tgt := 570) mx mb (by decide) dL_known_411 (by decide) (fun c411 => absurd c411 (by decide)) (fun _ => ?_)
    refine z_aload_n mx mb dL_known_414 rfl 0 rfl ?_
    refine z_iconst mx mb dL_known_415 ?_
    refine z_bipush mx mb dL_known_416 (by decide +kernel) ?_
    refine z_callSI (wa := []) (wc := (wC y o4 a408 S408 tb4 K2)) (wb := []) (As := [.ref (o4 0), .int (iZ 0), .int (iZ 6)]) (rest := []) ⟨mx, mb, mml, mo, mts⟩ hK hA hE (fun sz => c_L_trainBy l hl0 D sz y o4 a408 S408 tb4 K2 0 6 (by decide) (by decide) hT408) (vx_cwSW 3 mts gL_known_L_trainBy rfl rfl rfl (by decide +kernel) ⟨Nat.le_of_ble_eq_true rfl, Nat.le_of_ble_eq_true rfl⟩) (List.append_nil _).symm rfl rfl (Nat.le_of_ble_eq_true rfl) ⟨Nat.le_of_ble_eq_true rfl, Nat.le_of_ble_eq_true rfl⟩ dL_known_418 (fun r418 u418 hu418 => ?_)
    rw [List.nil_append, List.append_nil]
    obtain ⟨a418, S418⟩ := u418
    obtain ⟨hr, hT418⟩ := hu418
    replace hT418 : Tie K2 S418 := hT418
    obtain rfl : r418 = iZ 4 := hr.trans (congrArg iZ ka_418)
    show Gz pp l ee ({ frames := 11, cells := 1600, slots := 12000, locals := 206 } : Room) ss mm args below meth cd 2 732 5335 Q (Zw D vwCl (va_A wst sz) ss (wC y o4 a418 S418 tb4 K2)) 421 [(0, .ref (o4 0))] [.int (iZ 4)]
    refine z_iconst mx mb dL_known_421 ?_
    refine z_icmp_ne (tgt := 570) mx mb (by decide) (by decide) dL_known_422 (by decide) (fun c422 => absurd c422 (by decide)) (fun _ => ?_)
    refine z_aload_n mx mb dL_known_425 rfl 0 rfl ?_
    refine z_iconst mx mb dL_known_426 ?_
    refine z_callSI (wa := []) (wc := (wC y o4 a418 S418 tb4 K2)) (wb := []) (As := [.ref (o4 0), .int (iZ 0)]) (rest := []) ⟨mx, mb, mml, mo, mts⟩ hK hA hE (fun sz => c_L_reason l hl0 D sz y o4 a418 S418 tb4 K2 0 (by decide) hT418) (vx_cwSW 2 mts gL_known_L_reason rfl rfl rfl (by decide +kernel) ⟨Nat.le_of_ble_eq_true rfl, Nat.le_of_ble_eq_true rfl⟩) (List.append_nil _).symm rfl rfl (Nat.le_of_ble_eq_true rfl) ⟨Nat.le_of_ble_eq_true rfl, Nat.le_of_ble_eq_true rfl⟩ dL_known_427 (fun r427 u427 hu427 => ?_)
    rw [List.nil_append, List.append_nil]
    obtain ⟨a427, S427⟩ := u427
    obtain ⟨hr, hT427⟩ := hu427
    replace hT427 : Tie K2 S427 := hT427
    obtain rfl : r427 = iZ 5 := hr.trans (congrArg iZ ka_427)
    show Gz pp l ee ({ frames := 11, cells := 1600, slots := 12000, locals := 206 } : Room) ss mm args below meth cd 2 733 5341 Q (Zw D vwCl (va_A wst sz) ss (wC y o4 a427 S427 tb4 K2)) 430 [(0, .ref (o4 0))] [.int (iZ 5)]
    refine z_iconst mx mb dL_known_430 ?_
    refine z_icmp_ne (tgt := 570) mx mb (by decide) (by decide) dL_known_431 (by decide) (fun c431 => absurd c431 (by decide)) (fun _ => ?_)
    refine z_aload_n mx mb dL_known_434 rfl 0 rfl ?_
    refine z_iconst mx mb dL_known_435 ?_
    refine z_callSI (wa := []) (wc := (wC y o4 a427 S427 tb4 K2)) (wb := []) (As := [.ref (o4 0), .int (iZ 1)]) (rest := []) ⟨mx, mb, mml, mo, mts⟩ hK hA hE (fun sz => c_L_passing l hl0 D sz y o4 a427 S427 tb4 K2 1 (by decide) hT427) (vx_cwSW 2 mts gL_known_L_passing rfl rfl rfl (by decide +kernel) ⟨Nat.le_of_ble_eq_true rfl, Nat.le_of_ble_eq_true rfl⟩) (List.append_nil _).symm rfl rfl (Nat.le_of_ble_eq_true rfl) ⟨Nat.le_of_ble_eq_true rfl, Nat.le_of_ble_eq_true rfl⟩ dL_known_436 (fun r436 u436 hu436 => ?_)
    rw [List.nil_append, List.append_nil]
    obtain ⟨a436, S436⟩ := u436
    obtain ⟨hr, hT436⟩ := hu436
    replace hT436 : Tie (pasS K2 1) S436 := hT436
    obtain rfl : r436 = iZ 1 := hr.trans (congrArg iZ (kp_K3 hT427.1.2).2)
    show Gz pp l ee ({ frames := 11, cells := 1600, slots := 12000, locals := 206 } : Room) ss mm args below meth cd 2 734 5347 Q (Zw D vwCl (va_A wst sz) ss (wC y o4 a436 S436 tb4 (pasS K2 1))) 439 [(0, .ref (o4 0))] [.int (iZ 1)]
    replace hT436 : Tie K3 S436 := kt_K3 hT427 hT436
    rw [show wC y o4 a436 S436 tb4 (pasS K2 1) = wC y o4 a436 S436 tb4 K3 from (wC_nxt ..).symm]
    refine z_iconst mx mb dL_known_439 ?_
    refine z_icmp_ne (tgt := 570) mx mb (by decide) (by decide) dL_known_440 (by decide) (fun c440 => absurd c440 (by decide)) (fun _ => ?_)
    refine z_aload_n mx mb dL_known_443 rfl 0 rfl ?_
    refine z_iconst mx mb dL_known_444 ?_
    refine z_iconst mx mb dL_known_445 ?_
    refine z_callSI (wa := []) (wc := (wC y o4 a436 S436 tb4 K3)) (wb := []) (As := [.ref (o4 0), .int (iZ 0), .int (iZ 2)]) (rest := []) ⟨mx, mb, mml, mo, mts⟩ hK hA hE (fun sz => c_L_trainBy l hl0 D sz y o4 a436 S436 tb4 K3 0 2 (by decide) (by decide) hT436) (vx_cwSW 3 mts gL_known_L_trainBy rfl rfl rfl (by decide +kernel) ⟨Nat.le_of_ble_eq_true rfl, Nat.le_of_ble_eq_true rfl⟩) (List.append_nil _).symm rfl rfl (Nat.le_of_ble_eq_true rfl) ⟨Nat.le_of_ble_eq_true rfl, Nat.le_of_ble_eq_true rfl⟩ dL_known_446 (fun r446 u446 hu446 => ?_)
    rw [List.nil_append, List.append_nil]
    obtain ⟨a446, S446⟩ := u446
    obtain ⟨hr, hT446⟩ := hu446
    replace hT446 : Tie K3 S446 := hT446
    obtain rfl : r446 = iZ 25 := hr.trans (congrArg iZ ka_446)
    show Gz pp l ee ({ frames := 11, cells := 1600, slots := 12000, locals := 206 } : Room) ss mm args below meth cd 2 735 5353 Q (Zw D vwCl (va_A wst sz) ss (wC y o4 a446 S446 tb4 K3)) 449 [(0, .ref (o4 0))] [.int (iZ 25)]
    refine z_bipush mx mb dL_known_449 (by decide +kernel) ?_
    refine z_icmp_ne (tgt := 570) mx mb (by decide) (by decide) dL_known_451 (by decide) (fun c451 => absurd c451 (by decide)) (fun _ => ?_)
    refine z_aload_n mx mb dL_known_454 rfl 0 rfl ?_
    refine z_iconst mx mb dL_known_455 ?_
    refine z_bipush mx mb dL_known_456 (by decide +kernel) ?_
    refine z_callSI (wa := []) (wc := (wC y o4 a446 S446 tb4 K3)) (wb := []) (As := [.ref (o4 0), .int (iZ 0), .int (iZ 6)]) (rest := []) ⟨mx, mb, mml, mo, mts⟩ hK hA hE (fun sz => c_L_trainBy l hl0 D sz y o4 a446 S446 tb4 K3 0 6 (by decide) (by decide) hT446) (vx_cwSW 3 mts gL_known_L_trainBy rfl rfl rfl (by decide +kernel) ⟨Nat.le_of_ble_eq_true rfl, Nat.le_of_ble_eq_true rfl⟩) (List.append_nil _).symm rfl rfl (Nat.le_of_ble_eq_true rfl) ⟨Nat.le_of_ble_eq_true rfl, Nat.le_of_ble_eq_true rfl⟩ dL_known_458 (fun r458 u458 hu458 => ?_)
    rw [List.nil_append, List.append_nil]
    obtain ⟨a458, S458⟩ := u458
    obtain ⟨hr, hT458⟩ := hu458
    replace hT458 : Tie K3 S458 := hT458
    obtain rfl : r458 = iZ 0 := hr.trans (congrArg iZ ka_458)
    show Gz pp l ee ({ frames := 11, cells := 1600, slots := 12000, locals := 206 } : Room) ss mm args below meth cd 2 736 5359 Q (Zw D vwCl (va_A wst sz) ss (wC y o4 a458 S458 tb4 K3)) 461 [(0, .ref (o4 0))] [.int (iZ 0)]
    refine z_if_ne (tgt := 570) mx mb (by decide) dL_known_461 (by decide) (fun c461 => absurd c461 (by decide)) (fun _ => ?_)
    refine z_aload_n mx mb dL_known_464 rfl 0 rfl ?_
    refine z_iconst mx mb dL_known_465 ?_
    refine z_callSI (wa := []) (wc := (wC y o4 a458 S458 tb4 K3)) (wb := []) (As := [.ref (o4 0), .int (iZ 0)]) (rest := []) ⟨mx, mb, mml, mo, mts⟩ hK hA hE (fun sz => c_L_reason l hl0 D sz y o4 a458 S458 tb4 K3 0 (by decide) hT458) (vx_cwSW 2 mts gL_known_L_reason rfl rfl rfl (by decide +kernel) ⟨Nat.le_of_ble_eq_true rfl, Nat.le_of_ble_eq_true rfl⟩) (List.append_nil _).symm rfl rfl (Nat.le_of_ble_eq_true rfl) ⟨Nat.le_of_ble_eq_true rfl, Nat.le_of_ble_eq_true rfl⟩ dL_known_466 (fun r466 u466 hu466 => ?_)
    rw [List.nil_append, List.append_nil]
    obtain ⟨a466, S466⟩ := u466
    obtain ⟨hr, hT466⟩ := hu466
    replace hT466 : Tie K3 S466 := hT466
    obtain rfl : r466 = iZ 0 := hr.trans (congrArg iZ ka_466)
    show Gz pp l ee ({ frames := 11, cells := 1600, slots := 12000, locals := 206 } : Room) ss mm args below meth cd 2 737 5365 Q (Zw D vwCl (va_A wst sz) ss (wC y o4 a466 S466 tb4 K3)) 469 [(0, .ref (o4 0))] [.int (iZ 0)]
    refine z_if_ne (tgt := 570) mx mb (by decide) dL_known_469 (by decide) (fun c469 => absurd c469 (by decide)) (fun _ => ?_)
    refine z_aload_n mx mb dL_known_472 rfl 0 rfl ?_
    refine z_iconst mx mb dL_known_473 ?_
    refine z_iconst mx mb dL_known_474 ?_
    refine z_callSI (wa := []) (wc := (wC y o4 a466 S466 tb4 K3)) (wb := []) (As := [.ref (o4 0), .int (iZ 0), .int (iZ 0)]) (rest := []) ⟨mx, mb, mml, mo, mts⟩ hK hA hE (fun sz => c_L_sent l hl0 D sz y o4 a466 S466 tb4 K3 0 0 (by decide) (by decide) hT466) (vx_cwSW 3 mts gL_known_L_sent rfl rfl rfl (by decide +kernel) ⟨Nat.le_of_ble_eq_true rfl, Nat.le_of_ble_eq_true rfl⟩) (List.append_nil _).symm rfl rfl (Nat.le_of_ble_eq_true rfl) ⟨Nat.le_of_ble_eq_true rfl, Nat.le_of_ble_eq_true rfl⟩ dL_known_475 (fun r475 u475 hu475 => ?_)
    rw [List.nil_append, List.append_nil]
    obtain ⟨a475, S475⟩ := u475
    obtain ⟨hr, hT475⟩ := hu475
    replace hT475 : Tie K3 S475 := hT475
    obtain rfl : r475 = iZ 4 := hr.trans (congrArg iZ ka_475)
    show Gz pp l ee ({ frames := 11, cells := 1600, slots := 12000, locals := 206 } : Room) ss mm args below meth cd 2 738 5371 Q (Zw D vwCl (va_A wst sz) ss (wC y o4 a475 S475 tb4 K3)) 478 [(0, .ref (o4 0))] [.int (iZ 4)]
    refine z_iconst mx mb dL_known_478 ?_
    refine z_icmp_ne (tgt := 570) mx mb (by decide) (by decide) dL_known_479 (by decide) (fun c479 => absurd c479 (by decide)) (fun _ => ?_)
    refine z_aload_n mx mb dL_known_482 rfl 0 rfl ?_
    refine z_iconst mx mb dL_known_483 ?_
    refine z_iconst mx mb dL_known_484 ?_
    refine z_callSI (wa := []) (wc := (wC y o4 a475 S475 tb4 K3)) (wb := []) (As := [.ref (o4 0), .int (iZ 0), .int (iZ 1)]) (rest := []) ⟨mx, mb, mml, mo, mts⟩ hK hA hE (fun sz => c_L_sent l hl0 D sz y o4 a475 S475 tb4 K3 0 1 (by decide) (by decide) hT475) (vx_cwSW 3 mts gL_known_L_sent rfl rfl rfl (by decide +kernel) ⟨Nat.le_of_ble_eq_true rfl, Nat.le_of_ble_eq_true rfl⟩) (List.append_nil _).symm rfl rfl (Nat.le_of_ble_eq_true rfl) ⟨Nat.le_of_ble_eq_true rfl, Nat.le_of_ble_eq_true rfl⟩ dL_known_485 (fun r485 u485 hu485 => ?_)
    rw [List.nil_append, List.append_nil]
    obtain ⟨a485, S485⟩ := u485
    obtain ⟨hr, hT485⟩ := hu485
    replace hT485 : Tie K3 S485 := hT485
    obtain rfl : r485 = iZ 0 := hr.trans (congrArg iZ ka_485)
    show Gz pp l ee ({ frames := 11, cells := 1600, slots := 12000, locals := 206 } : Room) ss mm args below meth cd 2 739 5377 Q (Zw D vwCl (va_A wst sz) ss (wC y o4 a485 S485 tb4 K3)) 488 [(0, .ref (o4 0))] [.int (iZ 0)]
    refine z_if_ne (tgt := 570) mx mb (by decide) dL_known_488 (by decide) (fun c488 => absurd c488 (by decide)) (fun _ => ?_)
    refine z_aload_n mx mb dL_known_491 rfl 0 rfl ?_
    refine z_bipush mx mb dL_known_492 (by decide +kernel) ?_
    refine z_callSI (wa := []) (wc := (wC y o4 a485 S485 tb4 K3)) (wb := []) (As := [.ref (o4 0), .int (iZ 8)]) (rest := []) ⟨mx, mb, mml, mo, mts⟩ hK hA hE (fun sz => c_L_all l hl0 D sz y o4 a485 S485 tb4 K3 8 (by decide) hT485) (vx_cwSW 2 mts gL_known_L_all rfl rfl rfl (by decide +kernel) ⟨Nat.le_of_ble_eq_true rfl, Nat.le_of_ble_eq_true rfl⟩) (List.append_nil _).symm rfl rfl (Nat.le_of_ble_eq_true rfl) ⟨Nat.le_of_ble_eq_true rfl, Nat.le_of_ble_eq_true rfl⟩ dL_known_494 (fun r494 u494 hu494 => ?_)
    rw [List.nil_append, List.append_nil]
    obtain ⟨a494, S494⟩ := u494
    obtain ⟨hr, hT494⟩ := hu494
    replace hT494 : Tie K3 S494 := hT494
    obtain rfl : r494 = iZ 1 := hr.trans (congrArg iZ ka_494)
    show Gz pp l ee ({ frames := 11, cells := 1600, slots := 12000, locals := 206 } : Room) ss mm args below meth cd 2 740 5383 Q (Zw D vwCl (va_A wst sz) ss (wC y o4 a494 S494 tb4 K3)) 497 [(0, .ref (o4 0))] [.int (iZ 1)]
    refine z_iconst mx mb dL_known_497 ?_
    refine z_icmp_ne (tgt := 570) mx mb (by decide) (by decide) dL_known_498 (by decide) (fun c498 => absurd c498 (by decide)) (fun _ => ?_)
    refine z_aload_n mx mb dL_known_501 rfl 0 rfl ?_
    refine z_bipush mx mb dL_known_502 (by decide +kernel) ?_
    refine z_callSI (wa := []) (wc := (wC y o4 a494 S494 tb4 K3)) (wb := []) (As := [.ref (o4 0), .int (iZ 9)]) (rest := []) ⟨mx, mb, mml, mo, mts⟩ hK hA hE (fun sz => c_L_all l hl0 D sz y o4 a494 S494 tb4 K3 9 (by decide) hT494) (vx_cwSW 2 mts gL_known_L_all rfl rfl rfl (by decide +kernel) ⟨Nat.le_of_ble_eq_true rfl, Nat.le_of_ble_eq_true rfl⟩) (List.append_nil _).symm rfl rfl (Nat.le_of_ble_eq_true rfl) ⟨Nat.le_of_ble_eq_true rfl, Nat.le_of_ble_eq_true rfl⟩ dL_known_504 (fun r504 u504 hu504 => ?_)
    rw [List.nil_append, List.append_nil]
    obtain ⟨a504, S504⟩ := u504
    obtain ⟨hr, hT504⟩ := hu504
    replace hT504 : Tie K3 S504 := hT504
    obtain rfl : r504 = iZ 4 := hr.trans (congrArg iZ ka_504)
    show Gz pp l ee ({ frames := 11, cells := 1600, slots := 12000, locals := 206 } : Room) ss mm args below meth cd 2 741 5389 Q (Zw D vwCl (va_A wst sz) ss (wC y o4 a504 S504 tb4 K3)) 507 [(0, .ref (o4 0))] [.int (iZ 4)]
    refine z_iconst mx mb dL_known_507 ?_
    refine z_icmp_ne (tgt := 570) mx mb (by decide) (by decide) dL_known_508 (by decide) (fun c508 => absurd c508 (by decide)) (fun _ => ?_)
    refine z_aload_n mx mb dL_known_511 rfl 0 rfl ?_
    refine z_iconst mx mb dL_known_512 ?_
    refine z_callSI (wa := []) (wc := (wC y o4 a504 S504 tb4 K3)) (wb := []) (As := [.ref (o4 0), .int (iZ 1)]) (rest := []) ⟨mx, mb, mml, mo, mts⟩ hK hA hE (fun sz => c_L_adding l hl0 D sz y o4 a504 S504 tb4 K3 1 (by decide) hT504) (vx_cwSW 2 mts gL_known_L_adding rfl rfl rfl (by decide +kernel) ⟨Nat.le_of_ble_eq_true rfl, Nat.le_of_ble_eq_true rfl⟩) (List.append_nil _).symm rfl rfl (Nat.le_of_ble_eq_true rfl) ⟨Nat.le_of_ble_eq_true rfl, Nat.le_of_ble_eq_true rfl⟩ dL_known_513 (fun r513 u513 hu513 => ?_)
    rw [List.nil_append, List.append_nil]
    obtain ⟨a513, S513⟩ := u513
    obtain ⟨hr, hT513⟩ := hu513
    replace hT513 : Tie (addS K3 1) S513 := hT513
    obtain rfl : r513 = iZ (-3003) := hr.trans (congrArg iZ ka_513.1)
    show Gz pp l ee ({ frames := 11, cells := 1600, slots := 12000, locals := 206 } : Room) ss mm args below meth cd 2 742 5395 Q (Zw D vwCl (va_A wst sz) ss (wC y o4 a513 S513 tb4 (addS K3 1))) 516 [(0, .ref (o4 0))] [.int (iZ (-3003))]
    rw [ka_513.2]
    rw [ka_513.2] at hT513
    refine z_sipush mx mb dL_known_516 (by decide +kernel) ?_
    refine z_icmp_ne (tgt := 570) mx mb (by decide) (by decide) dL_known_519 (by decide) (fun c519 => absurd c519 (by decide)) (fun _ => ?_)
    refine z_aload_n mx mb dL_known_522 rfl 0 rfl ?_
    refine z_bipush mx mb dL_known_523 (by decide +kernel) ?_
    refine z_callSI (wa := []) (wc := (wC y o4 a513 S513 tb4 K3)) (wb := []) (As := [.ref (o4 0), .int (iZ 20)]) (rest := []) ⟨mx, mb, mml, mo, mts⟩ hK hA hE (fun sz => c_L_passing l hl0 D sz y o4 a513 S513 tb4 K3 20 (by decide) hT513) (vx_cwSW 2 mts gL_known_L_passing rfl rfl rfl (by decide +kernel) ⟨Nat.le_of_ble_eq_true rfl, Nat.le_of_ble_eq_true rfl⟩) (List.append_nil _).symm rfl rfl (Nat.le_of_ble_eq_true rfl) ⟨Nat.le_of_ble_eq_true rfl, Nat.le_of_ble_eq_true rfl⟩ dL_known_525 (fun r525 u525 hu525 => ?_)
    rw [List.nil_append, List.append_nil]
    obtain ⟨a525, S525⟩ := u525
    obtain ⟨hr, hT525⟩ := hu525
    replace hT525 : Tie (pasS K3 20) S525 := hT525
    obtain rfl : r525 = iZ 0 := hr.trans (congrArg iZ (kp_K4 hT513.1.2).2)
    show Gz pp l ee ({ frames := 11, cells := 1600, slots := 12000, locals := 206 } : Room) ss mm args below meth cd 2 743 5401 Q (Zw D vwCl (va_A wst sz) ss (wC y o4 a525 S525 tb4 (pasS K3 20))) 528 [(0, .ref (o4 0))] [.int (iZ 0)]
    replace hT525 : Tie K4 S525 := kt_K4 hT513 hT525
    rw [show wC y o4 a525 S525 tb4 (pasS K3 20) = wC y o4 a525 S525 tb4 K4 from (wC_nxt ..).symm]
    refine z_if_ne (tgt := 570) mx mb (by decide) dL_known_528 (by decide) (fun c528 => absurd c528 (by decide)) (fun _ => ?_)
    refine z_aload_n mx mb dL_known_531 rfl 0 rfl ?_
    refine z_iconst mx mb dL_known_532 ?_
    refine z_iconst mx mb dL_known_533 ?_
    refine z_callSI (wa := []) (wc := (wC y o4 a525 S525 tb4 K4)) (wb := []) (As := [.ref (o4 0), .int (iZ 0), .int (iZ 0)]) (rest := []) ⟨mx, mb, mml, mo, mts⟩ hK hA hE (fun sz => c_L_trainBy l hl0 D sz y o4 a525 S525 tb4 K4 0 0 (by decide) (by decide) hT525) (vx_cwSW 3 mts gL_known_L_trainBy rfl rfl rfl (by decide +kernel) ⟨Nat.le_of_ble_eq_true rfl, Nat.le_of_ble_eq_true rfl⟩) (List.append_nil _).symm rfl rfl (Nat.le_of_ble_eq_true rfl) ⟨Nat.le_of_ble_eq_true rfl, Nat.le_of_ble_eq_true rfl⟩ dL_known_534 (fun r534 u534 hu534 => ?_)
    rw [List.nil_append, List.append_nil]
    obtain ⟨a534, S534⟩ := u534
    obtain ⟨hr, hT534⟩ := hu534
    replace hT534 : Tie K4 S534 := hT534
    obtain rfl : r534 = iZ 1 := hr.trans (congrArg iZ ka_534)
    show Gz pp l ee ({ frames := 11, cells := 1600, slots := 12000, locals := 206 } : Room) ss mm args below meth cd 2 744 5407 Q (Zw D vwCl (va_A wst sz) ss (wC y o4 a534 S534 tb4 K4)) 537 [(0, .ref (o4 0))] [.int (iZ 1)]
    refine z_iconst mx mb dL_known_537 ?_
    refine z_icmp_ne (tgt := 570) mx mb (by decide) (by decide) dL_known_538 (by decide) (fun c538 => absurd c538 (by decide)) (fun _ => ?_)
    refine z_aload_n mx mb dL_known_541 rfl 0 rfl ?_
    refine z_iconst mx mb dL_known_542 ?_
    refine z_bipush mx mb dL_known_543 (by decide +kernel) ?_
    refine z_callSI (wa := []) (wc := (wC y o4 a534 S534 tb4 K4)) (wb := []) (As := [.ref (o4 0), .int (iZ 0), .int (iZ 8)]) (rest := []) ⟨mx, mb, mml, mo, mts⟩ hK hA hE (fun sz => c_L_trainBy l hl0 D sz y o4 a534 S534 tb4 K4 0 8 (by decide) (by decide) hT534) (vx_cwSW 3 mts gL_known_L_trainBy rfl rfl rfl (by decide +kernel) ⟨Nat.le_of_ble_eq_true rfl, Nat.le_of_ble_eq_true rfl⟩) (List.append_nil _).symm rfl rfl (Nat.le_of_ble_eq_true rfl) ⟨Nat.le_of_ble_eq_true rfl, Nat.le_of_ble_eq_true rfl⟩ dL_known_545 (fun r545 u545 hu545 => ?_)
    rw [List.nil_append, List.append_nil]
    obtain ⟨a545, S545⟩ := u545
    obtain ⟨hr, hT545⟩ := hu545
    replace hT545 : Tie K4 S545 := hT545
    obtain rfl : r545 = iZ 1 := hr.trans (congrArg iZ ka_545)
    show Gz pp l ee ({ frames := 11, cells := 1600, slots := 12000, locals := 206 } : Room) ss mm args below meth cd 2 745 5413 Q (Zw D vwCl (va_A wst sz) ss (wC y o4 a545 S545 tb4 K4)) 548 [(0, .ref (o4 0))] [.int (iZ 1)]
    refine z_iconst mx mb dL_known_548 ?_
    refine z_icmp_ne (tgt := 570) mx mb (by decide) (by decide) dL_known_549 (by decide) (fun c549 => absurd c549 (by decide)) (fun _ => ?_)
    refine z_aload_n mx mb dL_known_552 rfl 0 rfl ?_
    refine z_iconst mx mb dL_known_553 ?_
    refine z_iconst mx mb dL_known_554 ?_
    refine z_callSI (wa := []) (wc := (wC y o4 a545 S545 tb4 K4)) (wb := []) (As := [.ref (o4 0), .int (iZ 1), .int (iZ 3)]) (rest := []) ⟨mx, mb, mml, mo, mts⟩ hK hA hE (fun sz => c_L_blockBy l hl0 D sz y o4 a545 S545 tb4 K4 1 3 (by decide) (by decide) hT545) (vx_cwSW 3 mts gL_known_L_blockBy rfl rfl rfl (by decide +kernel) ⟨Nat.le_of_ble_eq_true rfl, Nat.le_of_ble_eq_true rfl⟩) (List.append_nil _).symm rfl rfl (Nat.le_of_ble_eq_true rfl) ⟨Nat.le_of_ble_eq_true rfl, Nat.le_of_ble_eq_true rfl⟩ dL_known_555 (fun r555 u555 hu555 => ?_)
    rw [List.nil_append, List.append_nil]
    obtain ⟨a555, S555⟩ := u555
    obtain ⟨hr, hT555⟩ := hu555
    replace hT555 : Tie K4 S555 := hT555
    obtain rfl : r555 = iZ 0 := hr.trans (congrArg iZ ka_555)
    show Gz pp l ee ({ frames := 11, cells := 1600, slots := 12000, locals := 206 } : Room) ss mm args below meth cd 2 746 5419 Q (Zw D vwCl (va_A wst sz) ss (wC y o4 a555 S555 tb4 K4)) 558 [(0, .ref (o4 0))] [.int (iZ 0)]
    refine z_if_ne (tgt := 570) mx mb (by decide) dL_known_558 (by decide) (fun c558 => absurd c558 (by decide)) (fun _ => ?_)
    refine z_aload_n mx mb dL_known_561 rfl 0 rfl ?_
    refine z_iconst mx mb dL_known_562 ?_
    refine z_iconst mx mb dL_known_563 ?_
    refine z_callSI (wa := []) (wc := (wC y o4 a555 S555 tb4 K4)) (wb := []) (As := [.ref (o4 0), .int (iZ 1), .int (iZ 3)]) (rest := []) ⟨mx, mb, mml, mo, mts⟩ hK hA hE (fun sz => c_L_cellBy l hl0 D sz y o4 a555 S555 tb4 K4 1 3 (by decide) (by decide) hT555) (vx_cwSW 3 mts gL_known_L_cellBy rfl rfl rfl (by decide +kernel) ⟨Nat.le_of_ble_eq_true rfl, Nat.le_of_ble_eq_true rfl⟩) (List.append_nil _).symm rfl rfl (Nat.le_of_ble_eq_true rfl) ⟨Nat.le_of_ble_eq_true rfl, Nat.le_of_ble_eq_true rfl⟩ dL_known_564 (fun r564 u564 hu564 => ?_)
    rw [List.nil_append, List.append_nil]
    obtain ⟨a564, S564⟩ := u564
    obtain ⟨hr, hT564⟩ := hu564
    replace hT564 : Tie K4 S564 := hT564
    obtain rfl : r564 = iZ 0 := hr.trans (congrArg iZ ka_564)
    show Gz pp l ee ({ frames := 11, cells := 1600, slots := 12000, locals := 206 } : Room) ss mm args below meth cd 2 747 5425 Q (Zw D vwCl (va_A wst sz) ss (wC y o4 a564 S564 tb4 K4)) 567 [(0, .ref (o4 0))] [.int (iZ 0)]
    refine z_if_eq (tgt := 572) mx mb (by decide) dL_known_567 (by decide) (fun _ => ?_) (fun c567 => absurd c567 (by decide))
    refine z_aload_n mx mb dL_known_572 rfl 0 rfl ?_
    refine z_bipush mx mb dL_known_573 (by decide +kernel) ?_
    refine z_callSI (wa := []) (wc := (wC y o4 a564 S564 tb4 K4)) (wb := []) (As := [.ref (o4 0), .int (iZ 79)]) (rest := []) ⟨mx, mb, mml, mo, mts⟩ hK hA hE (fun sz => c_L_passing l hl0 D sz y o4 a564 S564 tb4 K4 79 (by decide) hT564) (vx_cwSW 2 mts gL_known_L_passing rfl rfl rfl (by decide +kernel) ⟨Nat.le_of_ble_eq_true rfl, Nat.le_of_ble_eq_true rfl⟩) (List.append_nil _).symm rfl rfl (Nat.le_of_ble_eq_true rfl) ⟨Nat.le_of_ble_eq_true rfl, Nat.le_of_ble_eq_true rfl⟩ dL_known_575 (fun r575 u575 hu575 => ?_)
    rw [List.nil_append, List.append_nil]
    obtain ⟨a575, S575⟩ := u575
    obtain ⟨hr, hT575⟩ := hu575
    replace hT575 : Tie (pasS K4 79) S575 := hT575
    obtain rfl : r575 = iZ 0 := hr.trans (congrArg iZ (kp_K5 hT564.1.2).2)
    show Gz pp l ee ({ frames := 11, cells := 1600, slots := 12000, locals := 206 } : Room) ss mm args below meth cd 2 748 5431 Q (Zw D vwCl (va_A wst sz) ss (wC y o4 a575 S575 tb4 (pasS K4 79))) 578 [(0, .ref (o4 0))] [.int (iZ 0)]
    replace hT575 : Tie K5 S575 := kt_K5 hT564 hT575
    rw [show wC y o4 a575 S575 tb4 (pasS K4 79) = wC y o4 a575 S575 tb4 K5 from (wC_nxt ..).symm]
    refine z_if_ne (tgt := 667) mx mb (by decide) dL_known_578 (by decide) (fun c578 => absurd c578 (by decide)) (fun _ => ?_)
    refine z_aload_n mx mb dL_known_581 rfl 0 rfl ?_
    refine z_iconst mx mb dL_known_582 ?_
    refine z_iconst mx mb dL_known_583 ?_
    refine z_callSI (wa := []) (wc := (wC y o4 a575 S575 tb4 K5)) (wb := []) (As := [.ref (o4 0), .int (iZ 0), .int (iZ 0)]) (rest := []) ⟨mx, mb, mml, mo, mts⟩ hK hA hE (fun sz => c_L_trainBy l hl0 D sz y o4 a575 S575 tb4 K5 0 0 (by decide) (by decide) hT575) (vx_cwSW 3 mts gL_known_L_trainBy rfl rfl rfl (by decide +kernel) ⟨Nat.le_of_ble_eq_true rfl, Nat.le_of_ble_eq_true rfl⟩) (List.append_nil _).symm rfl rfl (Nat.le_of_ble_eq_true rfl) ⟨Nat.le_of_ble_eq_true rfl, Nat.le_of_ble_eq_true rfl⟩ dL_known_584 (fun r584 u584 hu584 => ?_)
    rw [List.nil_append, List.append_nil]
    obtain ⟨a584, S584⟩ := u584
    obtain ⟨hr, hT584⟩ := hu584
    replace hT584 : Tie K5 S584 := hT584
    obtain rfl : r584 = iZ 4 := hr.trans (congrArg iZ ka_584)
    show Gz pp l ee ({ frames := 11, cells := 1600, slots := 12000, locals := 206 } : Room) ss mm args below meth cd 2 749 5437 Q (Zw D vwCl (va_A wst sz) ss (wC y o4 a584 S584 tb4 K5)) 587 [(0, .ref (o4 0))] [.int (iZ 4)]
    refine z_iconst mx mb dL_known_587 ?_
    refine z_icmp_ne (tgt := 667) mx mb (by decide) (by decide) dL_known_588 (by decide) (fun c588 => absurd c588 (by decide)) (fun _ => ?_)
    refine z_aload_n mx mb dL_known_591 rfl 0 rfl ?_
    refine z_iconst mx mb dL_known_592 ?_
    refine z_iconst mx mb dL_known_593 ?_
    refine z_callSI (wa := []) (wc := (wC y o4 a584 S584 tb4 K5)) (wb := []) (As := [.ref (o4 0), .int (iZ 0), .int (iZ 3)]) (rest := []) ⟨mx, mb, mml, mo, mts⟩ hK hA hE (fun sz => c_L_trainBy l hl0 D sz y o4 a584 S584 tb4 K5 0 3 (by decide) (by decide) hT584) (vx_cwSW 3 mts gL_known_L_trainBy rfl rfl rfl (by decide +kernel) ⟨Nat.le_of_ble_eq_true rfl, Nat.le_of_ble_eq_true rfl⟩) (List.append_nil _).symm rfl rfl (Nat.le_of_ble_eq_true rfl) ⟨Nat.le_of_ble_eq_true rfl, Nat.le_of_ble_eq_true rfl⟩ dL_known_594 (fun r594 u594 hu594 => ?_)
    rw [List.nil_append, List.append_nil]
    obtain ⟨a594, S594⟩ := u594
    obtain ⟨hr, hT594⟩ := hu594
    replace hT594 : Tie K5 S594 := hT594
    obtain rfl : r594 = iZ 95 := hr.trans (congrArg iZ ka_594)
    show Gz pp l ee ({ frames := 11, cells := 1600, slots := 12000, locals := 206 } : Room) ss mm args below meth cd 2 750 5443 Q (Zw D vwCl (va_A wst sz) ss (wC y o4 a594 S594 tb4 K5)) 597 [(0, .ref (o4 0))] [.int (iZ 95)]
    refine z_bipush mx mb dL_known_597 (by decide +kernel) ?_
    refine z_icmp_ne (tgt := 667) mx mb (by decide) (by decide) dL_known_599 (by decide) (fun c599 => absurd c599 (by decide)) (fun _ => ?_)
    refine z_aload_n mx mb dL_known_602 rfl 0 rfl ?_
    refine z_iconst mx mb dL_known_603 ?_
    refine z_callSI (wa := []) (wc := (wC y o4 a594 S594 tb4 K5)) (wb := []) (As := [.ref (o4 0), .int (iZ 1)]) (rest := []) ⟨mx, mb, mml, mo, mts⟩ hK hA hE (fun sz => c_L_passing l hl0 D sz y o4 a594 S594 tb4 K5 1 (by decide) hT594) (vx_cwSW 2 mts gL_known_L_passing rfl rfl rfl (by decide +kernel) ⟨Nat.le_of_ble_eq_true rfl, Nat.le_of_ble_eq_true rfl⟩) (List.append_nil _).symm rfl rfl (Nat.le_of_ble_eq_true rfl) ⟨Nat.le_of_ble_eq_true rfl, Nat.le_of_ble_eq_true rfl⟩ dL_known_604 (fun r604 u604 hu604 => ?_)
    rw [List.nil_append, List.append_nil]
    obtain ⟨a604, S604⟩ := u604
    obtain ⟨hr, hT604⟩ := hu604
    replace hT604 : Tie (pasS K5 1) S604 := hT604
    obtain rfl : r604 = iZ 0 := hr.trans (congrArg iZ (kp_K6 hT594.1.2).2)
    show Gz pp l ee ({ frames := 11, cells := 1600, slots := 12000, locals := 206 } : Room) ss mm args below meth cd 2 751 5449 Q (Zw D vwCl (va_A wst sz) ss (wC y o4 a604 S604 tb4 (pasS K5 1))) 607 [(0, .ref (o4 0))] [.int (iZ 0)]
    replace hT604 : Tie K6 S604 := kt_K6 hT594 hT604
    rw [show wC y o4 a604 S604 tb4 (pasS K5 1) = wC y o4 a604 S604 tb4 K6 from (wC_nxt ..).symm]
    refine z_if_ne (tgt := 667) mx mb (by decide) dL_known_607 (by decide) (fun c607 => absurd c607 (by decide)) (fun _ => ?_)
    refine z_aload_n mx mb dL_known_610 rfl 0 rfl ?_
    refine z_iconst mx mb dL_known_611 ?_
    refine z_iconst mx mb dL_known_612 ?_
    refine z_callSI (wa := []) (wc := (wC y o4 a604 S604 tb4 K6)) (wb := []) (As := [.ref (o4 0), .int (iZ 0), .int (iZ 0)]) (rest := []) ⟨mx, mb, mml, mo, mts⟩ hK hA hE (fun sz => c_L_trainBy l hl0 D sz y o4 a604 S604 tb4 K6 0 0 (by decide) (by decide) hT604) (vx_cwSW 3 mts gL_known_L_trainBy rfl rfl rfl (by decide +kernel) ⟨Nat.le_of_ble_eq_true rfl, Nat.le_of_ble_eq_true rfl⟩) (List.append_nil _).symm rfl rfl (Nat.le_of_ble_eq_true rfl) ⟨Nat.le_of_ble_eq_true rfl, Nat.le_of_ble_eq_true rfl⟩ dL_known_613 (fun r613 u613 hu613 => ?_)
    rw [List.nil_append, List.append_nil]
    obtain ⟨a613, S613⟩ := u613
    obtain ⟨hr, hT613⟩ := hu613
    replace hT613 : Tie K6 S613 := hT613
    obtain rfl : r613 = iZ 5 := hr.trans (congrArg iZ ka_613)
    show Gz pp l ee ({ frames := 11, cells := 1600, slots := 12000, locals := 206 } : Room) ss mm args below meth cd 2 752 5455 Q (Zw D vwCl (va_A wst sz) ss (wC y o4 a613 S613 tb4 K6)) 616 [(0, .ref (o4 0))] [.int (iZ 5)]
    refine z_iconst mx mb dL_known_616 ?_
    refine z_icmp_ne (tgt := 667) mx mb (by decide) (by decide) dL_known_617 (by decide) (fun c617 => absurd c617 (by decide)) (fun _ => ?_)
    refine z_aload_n mx mb dL_known_620 rfl 0 rfl ?_
    refine z_iconst mx mb dL_known_621 ?_
    refine z_iconst mx mb dL_known_622 ?_
    refine z_callSI (wa := []) (wc := (wC y o4 a613 S613 tb4 K6)) (wb := []) (As := [.ref (o4 0), .int (iZ 0), .int (iZ 5)]) (rest := []) ⟨mx, mb, mml, mo, mts⟩ hK hA hE (fun sz => c_L_trainBy l hl0 D sz y o4 a613 S613 tb4 K6 0 5 (by decide) (by decide) hT613) (vx_cwSW 3 mts gL_known_L_trainBy rfl rfl rfl (by decide +kernel) ⟨Nat.le_of_ble_eq_true rfl, Nat.le_of_ble_eq_true rfl⟩) (List.append_nil _).symm rfl rfl (Nat.le_of_ble_eq_true rfl) ⟨Nat.le_of_ble_eq_true rfl, Nat.le_of_ble_eq_true rfl⟩ dL_known_623 (fun r623 u623 hu623 => ?_)
    rw [List.nil_append, List.append_nil]
    obtain ⟨a623, S623⟩ := u623
    obtain ⟨hr, hT623⟩ := hu623
    replace hT623 : Tie K6 S623 := hT623
    obtain rfl : r623 = iZ 1 := hr.trans (congrArg iZ ka_623)
    show Gz pp l ee ({ frames := 11, cells := 1600, slots := 12000, locals := 206 } : Room) ss mm args below meth cd 2 753 5461 Q (Zw D vwCl (va_A wst sz) ss (wC y o4 a623 S623 tb4 K6)) 626 [(0, .ref (o4 0))] [.int (iZ 1)]
    refine z_iconst mx mb dL_known_626 ?_
    refine z_icmp_ne (tgt := 667) mx mb (by decide) (by decide) dL_known_627 (by decide) (fun c627 => absurd c627 (by decide)) (fun _ => ?_)
    refine z_aload_n mx mb dL_known_630 rfl 0 rfl ?_
    refine z_iconst mx mb dL_known_631 ?_
    refine z_callSI (wa := []) (wc := (wC y o4 a623 S623 tb4 K6)) (wb := []) (As := [.ref (o4 0), .int (iZ 0)]) (rest := []) ⟨mx, mb, mml, mo, mts⟩ hK hA hE (fun sz => c_L_reason l hl0 D sz y o4 a623 S623 tb4 K6 0 (by decide) hT623) (vx_cwSW 2 mts gL_known_L_reason rfl rfl rfl (by decide +kernel) ⟨Nat.le_of_ble_eq_true rfl, Nat.le_of_ble_eq_true rfl⟩) (List.append_nil _).symm rfl rfl (Nat.le_of_ble_eq_true rfl) ⟨Nat.le_of_ble_eq_true rfl, Nat.le_of_ble_eq_true rfl⟩ dL_known_632 (fun r632 u632 hu632 => ?_)
    rw [List.nil_append, List.append_nil]
    obtain ⟨a632, S632⟩ := u632
    obtain ⟨hr, hT632⟩ := hu632
    replace hT632 : Tie K6 S632 := hT632
    obtain rfl : r632 = iZ 5 := hr.trans (congrArg iZ ka_632)
    show Gz pp l ee ({ frames := 11, cells := 1600, slots := 12000, locals := 206 } : Room) ss mm args below meth cd 2 754 5467 Q (Zw D vwCl (va_A wst sz) ss (wC y o4 a632 S632 tb4 K6)) 635 [(0, .ref (o4 0))] [.int (iZ 5)]
    refine z_iconst mx mb dL_known_635 ?_
    refine z_icmp_ne (tgt := 667) mx mb (by decide) (by decide) dL_known_636 (by decide) (fun c636 => absurd c636 (by decide)) (fun _ => ?_)
    refine z_aload_n mx mb dL_known_639 rfl 0 rfl ?_
    refine z_iconst mx mb dL_known_640 ?_
    refine z_callSI (wa := []) (wc := (wC y o4 a632 S632 tb4 K6)) (wb := []) (As := [.ref (o4 0), .int (iZ 3)]) (rest := []) ⟨mx, mb, mml, mo, mts⟩ hK hA hE (fun sz => c_L_all l hl0 D sz y o4 a632 S632 tb4 K6 3 (by decide) hT632) (vx_cwSW 2 mts gL_known_L_all rfl rfl rfl (by decide +kernel) ⟨Nat.le_of_ble_eq_true rfl, Nat.le_of_ble_eq_true rfl⟩) (List.append_nil _).symm rfl rfl (Nat.le_of_ble_eq_true rfl) ⟨Nat.le_of_ble_eq_true rfl, Nat.le_of_ble_eq_true rfl⟩ dL_known_641 (fun r641 u641 hu641 => ?_)
    rw [List.nil_append, List.append_nil]
    obtain ⟨a641, S641⟩ := u641
    obtain ⟨hr, hT641⟩ := hu641
    replace hT641 : Tie K6 S641 := hT641
    obtain rfl : r641 = iZ 105 := hr.trans (congrArg iZ ka_641)
    show Gz pp l ee ({ frames := 11, cells := 1600, slots := 12000, locals := 206 } : Room) ss mm args below meth cd 2 755 5473 Q (Zw D vwCl (va_A wst sz) ss (wC y o4 a641 S641 tb4 K6)) 644 [(0, .ref (o4 0))] [.int (iZ 105)]
    refine z_bipush mx mb dL_known_644 (by decide +kernel) ?_
    refine z_icmp_ne (tgt := 667) mx mb (by decide) (by decide) dL_known_646 (by decide) (fun c646 => absurd c646 (by decide)) (fun _ => ?_)
    refine z_aload_n mx mb dL_known_649 rfl 0 rfl ?_
    refine z_iconst mx mb dL_known_650 ?_
    refine z_bipush mx mb dL_known_651 (by decide +kernel) ?_
    refine z_callSI (wa := []) (wc := (wC y o4 a641 S641 tb4 K6)) (wb := []) (As := [.ref (o4 0), .int (iZ 0), .int (iZ 8)]) (rest := []) ⟨mx, mb, mml, mo, mts⟩ hK hA hE (fun sz => c_L_trainBy l hl0 D sz y o4 a641 S641 tb4 K6 0 8 (by decide) (by decide) hT641) (vx_cwSW 3 mts gL_known_L_trainBy rfl rfl rfl (by decide +kernel) ⟨Nat.le_of_ble_eq_true rfl, Nat.le_of_ble_eq_true rfl⟩) (List.append_nil _).symm rfl rfl (Nat.le_of_ble_eq_true rfl) ⟨Nat.le_of_ble_eq_true rfl, Nat.le_of_ble_eq_true rfl⟩ dL_known_653 (fun r653 u653 hu653 => ?_)
    rw [List.nil_append, List.append_nil]
    obtain ⟨a653, S653⟩ := u653
    obtain ⟨hr, hT653⟩ := hu653
    replace hT653 : Tie K6 S653 := hT653
    obtain rfl : r653 = iZ 5 := hr.trans (congrArg iZ ka_653)
    show Gz pp l ee ({ frames := 11, cells := 1600, slots := 12000, locals := 206 } : Room) ss mm args below meth cd 2 756 5479 Q (Zw D vwCl (va_A wst sz) ss (wC y o4 a653 S653 tb4 K6)) 656 [(0, .ref (o4 0))] [.int (iZ 5)]
    refine z_iconst mx mb dL_known_656 ?_
    refine z_icmp_ne (tgt := 667) mx mb (by decide) (by decide) dL_known_657 (by decide) (fun c657 => absurd c657 (by decide)) (fun _ => ?_)
    refine z_aload_n mx mb dL_known_660 rfl 0 rfl ?_
    refine z_callSE (wa := []) (wc := (wC y o4 a653 S653 tb4 K6)) (wb := []) (As := [.ref (o4 0)]) (rest := []) ⟨mx, mb, mml, mo, mts⟩ hK hA hE (fun sz => c_L_refused l hl0 D sz y o4 a653 S653 tb4 K6 hT653) (cwS 1 mts gL_known_L_refused rfl rfl rfl (by decide +kernel) ⟨Nat.le_of_ble_eq_true rfl, Nat.le_of_ble_eq_true rfl⟩) (List.append_nil _).symm rfl rfl (Nat.le_of_ble_eq_true rfl) ⟨Nat.le_of_ble_eq_true rfl, Nat.le_of_ble_eq_true rfl⟩ dL_known_661 (fun r661 u661 hu661 => ?_)
    rw [List.nil_append, List.append_nil]
    obtain ⟨a661, S661⟩ := u661
    obtain ⟨hr, hT661⟩ := hu661
    replace hT661 : Tie K6 S661 := hT661
    obtain rfl : r661 = iZ 1 := hr
    show Gz pp l ee ({ frames := 11, cells := 1600, slots := 12000, locals := 206 } : Room) ss mm args below meth cd 2 856 6079 Q (Zw D vwCl (va_A wst sz) ss (wC y o4 a661 S661 tb4 K6)) 664 [(0, .ref (o4 0))] [.int (iZ 1)]
    refine z_if_ne (tgt := 669) mx mb (by decide) dL_known_664 (by decide) (fun _ => ?_) (fun c664 => absurd c664 (by decide))
    refine z_aload_n mx mb dL_known_669 rfl 0 rfl ?_
    refine z_bipush mx mb dL_known_670 (by decide +kernel) ?_
    refine z_callSI (wa := []) (wc := (wC y o4 a661 S661 tb4 K6)) (wb := []) (As := [.ref (o4 0), .int (iZ 27)]) (rest := []) ⟨mx, mb, mml, mo, mts⟩ hK hA hE (fun sz => c_L_passing l hl0 D sz y o4 a661 S661 tb4 K6 27 (by decide) hT661) (vx_cwSW 2 mts gL_known_L_passing rfl rfl rfl (by decide +kernel) ⟨Nat.le_of_ble_eq_true rfl, Nat.le_of_ble_eq_true rfl⟩) (List.append_nil _).symm rfl rfl (Nat.le_of_ble_eq_true rfl) ⟨Nat.le_of_ble_eq_true rfl, Nat.le_of_ble_eq_true rfl⟩ dL_known_672 (fun r672 u672 hu672 => ?_)
    rw [List.nil_append, List.append_nil]
    obtain ⟨a672, S672⟩ := u672
    obtain ⟨hr, hT672⟩ := hu672
    replace hT672 : Tie (pasS K6 27) S672 := hT672
    obtain rfl : r672 = iZ 0 := hr.trans (congrArg iZ (kp_K7 hT661.1.2).2)
    show Gz pp l ee ({ frames := 11, cells := 1600, slots := 12000, locals := 206 } : Room) ss mm args below meth cd 2 857 6085 Q (Zw D vwCl (va_A wst sz) ss (wC y o4 a672 S672 tb4 (pasS K6 27))) 675 [(0, .ref (o4 0))] [.int (iZ 0)]
    replace hT672 : Tie K7 S672 := kt_K7 hT661 hT672
    rw [show wC y o4 a672 S672 tb4 (pasS K6 27) = wC y o4 a672 S672 tb4 K7 from (wC_nxt ..).symm]
    refine z_if_ne (tgt := 846) mx mb (by decide) dL_known_675 (by decide) (fun c675 => absurd c675 (by decide)) (fun _ => ?_)
    refine z_aload_n mx mb dL_known_678 rfl 0 rfl ?_
    refine z_iconst mx mb dL_known_679 ?_
    refine z_iconst mx mb dL_known_680 ?_
    refine z_callSI (wa := []) (wc := (wC y o4 a672 S672 tb4 K7)) (wb := []) (As := [.ref (o4 0), .int (iZ 0), .int (iZ 0)]) (rest := []) ⟨mx, mb, mml, mo, mts⟩ hK hA hE (fun sz => c_L_trainBy l hl0 D sz y o4 a672 S672 tb4 K7 0 0 (by decide) (by decide) hT672) (vx_cwSW 3 mts gL_known_L_trainBy rfl rfl rfl (by decide +kernel) ⟨Nat.le_of_ble_eq_true rfl, Nat.le_of_ble_eq_true rfl⟩) (List.append_nil _).symm rfl rfl (Nat.le_of_ble_eq_true rfl) ⟨Nat.le_of_ble_eq_true rfl, Nat.le_of_ble_eq_true rfl⟩ dL_known_681 (fun r681 u681 hu681 => ?_)
    rw [List.nil_append, List.append_nil]
    obtain ⟨a681, S681⟩ := u681
    obtain ⟨hr, hT681⟩ := hu681
    replace hT681 : Tie K7 S681 := hT681
    obtain rfl : r681 = iZ 7 := hr.trans (congrArg iZ ka_681)
    show Gz pp l ee ({ frames := 11, cells := 1600, slots := 12000, locals := 206 } : Room) ss mm args below meth cd 2 858 6091 Q (Zw D vwCl (va_A wst sz) ss (wC y o4 a681 S681 tb4 K7)) 684 [(0, .ref (o4 0))] [.int (iZ 7)]
    refine z_bipush mx mb dL_known_684 (by decide +kernel) ?_
    refine z_icmp_ne (tgt := 846) mx mb (by decide) (by decide) dL_known_686 (by decide) (fun c686 => absurd c686 (by decide)) (fun _ => ?_)
    refine z_aload_n mx mb dL_known_689 rfl 0 rfl ?_
    refine z_iconst mx mb dL_known_690 ?_
    refine z_iconst mx mb dL_known_691 ?_
    refine z_callSI (wa := []) (wc := (wC y o4 a681 S681 tb4 K7)) (wb := []) (As := [.ref (o4 0), .int (iZ 0), .int (iZ 2)]) (rest := []) ⟨mx, mb, mml, mo, mts⟩ hK hA hE (fun sz => c_L_trainBy l hl0 D sz y o4 a681 S681 tb4 K7 0 2 (by decide) (by decide) hT681) (vx_cwSW 3 mts gL_known_L_trainBy rfl rfl rfl (by decide +kernel) ⟨Nat.le_of_ble_eq_true rfl, Nat.le_of_ble_eq_true rfl⟩) (List.append_nil _).symm rfl rfl (Nat.le_of_ble_eq_true rfl) ⟨Nat.le_of_ble_eq_true rfl, Nat.le_of_ble_eq_true rfl⟩ dL_known_692 (fun r692 u692 hu692 => ?_)
    rw [List.nil_append, List.append_nil]
    obtain ⟨a692, S692⟩ := u692
    obtain ⟨hr, hT692⟩ := hu692
    replace hT692 : Tie K7 S692 := hT692
    obtain rfl : r692 = iZ 611 := hr.trans (congrArg iZ ka_692)
    show Gz pp l ee ({ frames := 11, cells := 1600, slots := 12000, locals := 206 } : Room) ss mm args below meth cd 2 859 6097 Q (Zw D vwCl (va_A wst sz) ss (wC y o4 a692 S692 tb4 K7)) 695 [(0, .ref (o4 0))] [.int (iZ 611)]
    refine z_sipush mx mb dL_known_695 (by decide +kernel) ?_
    refine z_icmp_ne (tgt := 846) mx mb (by decide) (by decide) dL_known_698 (by decide) (fun c698 => absurd c698 (by decide)) (fun _ => ?_)
    refine z_aload_n mx mb dL_known_701 rfl 0 rfl ?_
    refine z_iconst mx mb dL_known_702 ?_
    refine z_iconst mx mb dL_known_703 ?_
    refine z_callSI (wa := []) (wc := (wC y o4 a692 S692 tb4 K7)) (wb := []) (As := [.ref (o4 0), .int (iZ 0), .int (iZ 3)]) (rest := []) ⟨mx, mb, mml, mo, mts⟩ hK hA hE (fun sz => c_L_trainBy l hl0 D sz y o4 a692 S692 tb4 K7 0 3 (by decide) (by decide) hT692) (vx_cwSW 3 mts gL_known_L_trainBy rfl rfl rfl (by decide +kernel) ⟨Nat.le_of_ble_eq_true rfl, Nat.le_of_ble_eq_true rfl⟩) (List.append_nil _).symm rfl rfl (Nat.le_of_ble_eq_true rfl) ⟨Nat.le_of_ble_eq_true rfl, Nat.le_of_ble_eq_true rfl⟩ dL_known_704 (fun r704 u704 hu704 => ?_)
    rw [List.nil_append, List.append_nil]
    obtain ⟨a704, S704⟩ := u704
    obtain ⟨hr, hT704⟩ := hu704
    replace hT704 : Tie K7 S704 := hT704
    obtain rfl : r704 = iZ 2 := hr.trans (congrArg iZ ka_704)
    show Gz pp l ee ({ frames := 11, cells := 1600, slots := 12000, locals := 206 } : Room) ss mm args below meth cd 2 860 6103 Q (Zw D vwCl (va_A wst sz) ss (wC y o4 a704 S704 tb4 K7)) 707 [(0, .ref (o4 0))] [.int (iZ 2)]
    refine z_iconst mx mb dL_known_707 ?_
    refine z_icmp_ne (tgt := 846) mx mb (by decide) (by decide) dL_known_708 (by decide) (fun c708 => absurd c708 (by decide)) (fun _ => ?_)
    refine z_aload_n mx mb dL_known_711 rfl 0 rfl ?_
    refine z_iconst mx mb dL_known_712 ?_
    refine z_iconst mx mb dL_known_713 ?_
    refine z_callSI (wa := []) (wc := (wC y o4 a704 S704 tb4 K7)) (wb := []) (As := [.ref (o4 0), .int (iZ 0), .int (iZ 4)]) (rest := []) ⟨mx, mb, mml, mo, mts⟩ hK hA hE (fun sz => c_L_trainBy l hl0 D sz y o4 a704 S704 tb4 K7 0 4 (by decide) (by decide) hT704) (vx_cwSW 3 mts gL_known_L_trainBy rfl rfl rfl (by decide +kernel) ⟨Nat.le_of_ble_eq_true rfl, Nat.le_of_ble_eq_true rfl⟩) (List.append_nil _).symm rfl rfl (Nat.le_of_ble_eq_true rfl) ⟨Nat.le_of_ble_eq_true rfl, Nat.le_of_ble_eq_true rfl⟩ dL_known_714 (fun r714 u714 hu714 => ?_)
    rw [List.nil_append, List.append_nil]
    obtain ⟨a714, S714⟩ := u714
    obtain ⟨hr, hT714⟩ := hu714
    replace hT714 : Tie K7 S714 := hT714
    obtain rfl : r714 = iZ 21 := hr.trans (congrArg iZ ka_714)
    show Gz pp l ee ({ frames := 11, cells := 1600, slots := 12000, locals := 206 } : Room) ss mm args below meth cd 2 861 6109 Q (Zw D vwCl (va_A wst sz) ss (wC y o4 a714 S714 tb4 K7)) 717 [(0, .ref (o4 0))] [.int (iZ 21)]
    refine z_bipush mx mb dL_known_717 (by decide +kernel) ?_
    refine z_icmp_ne (tgt := 846) mx mb (by decide) (by decide) dL_known_719 (by decide) (fun c719 => absurd c719 (by decide)) (fun _ => ?_)
    refine z_aload_n mx mb dL_known_722 rfl 0 rfl ?_
    refine z_iconst mx mb dL_known_723 ?_
    refine z_bipush mx mb dL_known_724 (by decide +kernel) ?_
    refine z_callSI (wa := []) (wc := (wC y o4 a714 S714 tb4 K7)) (wb := []) (As := [.ref (o4 0), .int (iZ 0), .int (iZ 7)]) (rest := []) ⟨mx, mb, mml, mo, mts⟩ hK hA hE (fun sz => c_L_trainBy l hl0 D sz y o4 a714 S714 tb4 K7 0 7 (by decide) (by decide) hT714) (vx_cwSW 3 mts gL_known_L_trainBy rfl rfl rfl (by decide +kernel) ⟨Nat.le_of_ble_eq_true rfl, Nat.le_of_ble_eq_true rfl⟩) (List.append_nil _).symm rfl rfl (Nat.le_of_ble_eq_true rfl) ⟨Nat.le_of_ble_eq_true rfl, Nat.le_of_ble_eq_true rfl⟩ dL_known_726 (fun r726 u726 hu726 => ?_)
    rw [List.nil_append, List.append_nil]
    obtain ⟨a726, S726⟩ := u726
    obtain ⟨hr, hT726⟩ := hu726
    replace hT726 : Tie K7 S726 := hT726
    obtain rfl : r726 = iZ 6 := hr.trans (congrArg iZ ka_726)
    show Gz pp l ee ({ frames := 11, cells := 1600, slots := 12000, locals := 206 } : Room) ss mm args below meth cd 2 862 6115 Q (Zw D vwCl (va_A wst sz) ss (wC y o4 a726 S726 tb4 K7)) 729 [(0, .ref (o4 0))] [.int (iZ 6)]
    refine z_bipush mx mb dL_known_729 (by decide +kernel) ?_
    refine z_icmp_ne (tgt := 846) mx mb (by decide) (by decide) dL_known_731 (by decide) (fun c731 => absurd c731 (by decide)) (fun _ => ?_)
    refine z_aload_n mx mb dL_known_734 rfl 0 rfl ?_
    refine z_bipush mx mb dL_known_735 (by decide +kernel) ?_
    refine z_callSI (wa := []) (wc := (wC y o4 a726 S726 tb4 K7)) (wb := []) (As := [.ref (o4 0), .int (iZ 14)]) (rest := []) ⟨mx, mb, mml, mo, mts⟩ hK hA hE (fun sz => c_L_passing l hl0 D sz y o4 a726 S726 tb4 K7 14 (by decide) hT726) (vx_cwSW 2 mts gL_known_L_passing rfl rfl rfl (by decide +kernel) ⟨Nat.le_of_ble_eq_true rfl, Nat.le_of_ble_eq_true rfl⟩) (List.append_nil _).symm rfl rfl (Nat.le_of_ble_eq_true rfl) ⟨Nat.le_of_ble_eq_true rfl, Nat.le_of_ble_eq_true rfl⟩ dL_known_737 (fun r737 u737 hu737 => ?_)
    rw [List.nil_append, List.append_nil]
    obtain ⟨a737, S737⟩ := u737
    obtain ⟨hr, hT737⟩ := hu737
    replace hT737 : Tie (pasS K7 14) S737 := hT737
    obtain rfl : r737 = iZ 0 := hr.trans (congrArg iZ (kp_K8 hT726.1.2).2)
    show Gz pp l ee ({ frames := 11, cells := 1600, slots := 12000, locals := 206 } : Room) ss mm args below meth cd 2 863 6121 Q (Zw D vwCl (va_A wst sz) ss (wC y o4 a737 S737 tb4 (pasS K7 14))) 740 [(0, .ref (o4 0))] [.int (iZ 0)]
    replace hT737 : Tie K8 S737 := kt_K8 hT726 hT737
    rw [show wC y o4 a737 S737 tb4 (pasS K7 14) = wC y o4 a737 S737 tb4 K8 from (wC_nxt ..).symm]
    refine z_if_ne (tgt := 846) mx mb (by decide) dL_known_740 (by decide) (fun c740 => absurd c740 (by decide)) (fun _ => ?_)
    refine z_aload_n mx mb dL_known_743 rfl 0 rfl ?_
    refine z_iconst mx mb dL_known_744 ?_
    refine z_iconst mx mb dL_known_745 ?_
    refine z_callSI (wa := []) (wc := (wC y o4 a737 S737 tb4 K8)) (wb := []) (As := [.ref (o4 0), .int (iZ 0), .int (iZ 0)]) (rest := []) ⟨mx, mb, mml, mo, mts⟩ hK hA hE (fun sz => c_L_trainBy l hl0 D sz y o4 a737 S737 tb4 K8 0 0 (by decide) (by decide) hT737) (vx_cwSW 3 mts gL_known_L_trainBy rfl rfl rfl (by decide +kernel) ⟨Nat.le_of_ble_eq_true rfl, Nat.le_of_ble_eq_true rfl⟩) (List.append_nil _).symm rfl rfl (Nat.le_of_ble_eq_true rfl) ⟨Nat.le_of_ble_eq_true rfl, Nat.le_of_ble_eq_true rfl⟩ dL_known_746 (fun r746 u746 hu746 => ?_)
    rw [List.nil_append, List.append_nil]
    obtain ⟨a746, S746⟩ := u746
    obtain ⟨hr, hT746⟩ := hu746
    replace hT746 : Tie K8 S746 := hT746
    obtain rfl : r746 = iZ 10 := hr.trans (congrArg iZ ka_746)
    show Gz pp l ee ({ frames := 11, cells := 1600, slots := 12000, locals := 206 } : Room) ss mm args below meth cd 2 864 6127 Q (Zw D vwCl (va_A wst sz) ss (wC y o4 a746 S746 tb4 K8)) 749 [(0, .ref (o4 0))] [.int (iZ 10)]
    refine z_bipush mx mb dL_known_749 (by decide +kernel) ?_
    refine z_icmp_ne (tgt := 846) mx mb (by decide) (by decide) dL_known_751 (by decide) (fun c751 => absurd c751 (by decide)) (fun _ => ?_)
    refine z_aload_n mx mb dL_known_754 rfl 0 rfl ?_
    refine z_iconst mx mb dL_known_755 ?_
    refine z_iconst mx mb dL_known_756 ?_
    refine z_callSI (wa := []) (wc := (wC y o4 a746 S746 tb4 K8)) (wb := []) (As := [.ref (o4 0), .int (iZ 0), .int (iZ 5)]) (rest := []) ⟨mx, mb, mml, mo, mts⟩ hK hA hE (fun sz => c_L_trainBy l hl0 D sz y o4 a746 S746 tb4 K8 0 5 (by decide) (by decide) hT746) (vx_cwSW 3 mts gL_known_L_trainBy rfl rfl rfl (by decide +kernel) ⟨Nat.le_of_ble_eq_true rfl, Nat.le_of_ble_eq_true rfl⟩) (List.append_nil _).symm rfl rfl (Nat.le_of_ble_eq_true rfl) ⟨Nat.le_of_ble_eq_true rfl, Nat.le_of_ble_eq_true rfl⟩ dL_known_757 (fun r757 u757 hu757 => ?_)
    rw [List.nil_append, List.append_nil]
    obtain ⟨a757, S757⟩ := u757
    obtain ⟨hr, hT757⟩ := hu757
    replace hT757 : Tie K8 S757 := hT757
    obtain rfl : r757 = iZ 1 := hr.trans (congrArg iZ ka_757)
    show Gz pp l ee ({ frames := 11, cells := 1600, slots := 12000, locals := 206 } : Room) ss mm args below meth cd 2 865 6133 Q (Zw D vwCl (va_A wst sz) ss (wC y o4 a757 S757 tb4 K8)) 760 [(0, .ref (o4 0))] [.int (iZ 1)]
    refine z_iconst mx mb dL_known_760 ?_
    refine z_icmp_ne (tgt := 846) mx mb (by decide) (by decide) dL_known_761 (by decide) (fun c761 => absurd c761 (by decide)) (fun _ => ?_)
    refine z_aload_n mx mb dL_known_764 rfl 0 rfl ?_
    refine z_iconst mx mb dL_known_765 ?_
    refine z_iconst mx mb dL_known_766 ?_
    refine z_callSI (wa := []) (wc := (wC y o4 a757 S757 tb4 K8)) (wb := []) (As := [.ref (o4 0), .int (iZ 0), .int (iZ 4)]) (rest := []) ⟨mx, mb, mml, mo, mts⟩ hK hA hE (fun sz => c_L_trainBy l hl0 D sz y o4 a757 S757 tb4 K8 0 4 (by decide) (by decide) hT757) (vx_cwSW 3 mts gL_known_L_trainBy rfl rfl rfl (by decide +kernel) ⟨Nat.le_of_ble_eq_true rfl, Nat.le_of_ble_eq_true rfl⟩) (List.append_nil _).symm rfl rfl (Nat.le_of_ble_eq_true rfl) ⟨Nat.le_of_ble_eq_true rfl, Nat.le_of_ble_eq_true rfl⟩ dL_known_767 (fun r767 u767 hu767 => ?_)
    rw [List.nil_append, List.append_nil]
    obtain ⟨a767, S767⟩ := u767
    obtain ⟨hr, hT767⟩ := hu767
    replace hT767 : Tie K8 S767 := hT767
    obtain rfl : r767 = iZ 33 := hr.trans (congrArg iZ ka_767)
    show Gz pp l ee ({ frames := 11, cells := 1600, slots := 12000, locals := 206 } : Room) ss mm args below meth cd 2 866 6139 Q (Zw D vwCl (va_A wst sz) ss (wC y o4 a767 S767 tb4 K8)) 770 [(0, .ref (o4 0))] [.int (iZ 33)]
    refine z_bipush mx mb dL_known_770 (by decide +kernel) ?_
    refine z_icmp_ne (tgt := 846) mx mb (by decide) (by decide) dL_known_772 (by decide) (fun c772 => absurd c772 (by decide)) (fun _ => ?_)
    refine z_aload_n mx mb dL_known_775 rfl 0 rfl ?_
    refine z_iconst mx mb dL_known_776 ?_
    refine z_bipush mx mb dL_known_777 (by decide +kernel) ?_
    refine z_callSI (wa := []) (wc := (wC y o4 a767 S767 tb4 K8)) (wb := []) (As := [.ref (o4 0), .int (iZ 0), .int (iZ 8)]) (rest := []) ⟨mx, mb, mml, mo, mts⟩ hK hA hE (fun sz => c_L_trainBy l hl0 D sz y o4 a767 S767 tb4 K8 0 8 (by decide) (by decide) hT767) (vx_cwSW 3 mts gL_known_L_trainBy rfl rfl rfl (by decide +kernel) ⟨Nat.le_of_ble_eq_true rfl, Nat.le_of_ble_eq_true rfl⟩) (List.append_nil _).symm rfl rfl (Nat.le_of_ble_eq_true rfl) ⟨Nat.le_of_ble_eq_true rfl, Nat.le_of_ble_eq_true rfl⟩ dL_known_779 (fun r779 u779 hu779 => ?_)
    rw [List.nil_append, List.append_nil]
    obtain ⟨a779, S779⟩ := u779
    obtain ⟨hr, hT779⟩ := hu779
    replace hT779 : Tie K8 S779 := hT779
    obtain rfl : r779 = iZ 10 := hr.trans (congrArg iZ ka_779)
    show Gz pp l ee ({ frames := 11, cells := 1600, slots := 12000, locals := 206 } : Room) ss mm args below meth cd 2 867 6145 Q (Zw D vwCl (va_A wst sz) ss (wC y o4 a779 S779 tb4 K8)) 782 [(0, .ref (o4 0))] [.int (iZ 10)]
    refine z_bipush mx mb dL_known_782 (by decide +kernel) ?_
    refine z_icmp_ne (tgt := 846) mx mb (by decide) (by decide) dL_known_784 (by decide) (fun c784 => absurd c784 (by decide)) (fun _ => ?_)
    refine z_aload_n mx mb dL_known_787 rfl 0 rfl ?_
    refine z_iconst mx mb dL_known_788 ?_
    refine z_iconst mx mb dL_known_789 ?_
    refine z_callSI (wa := []) (wc := (wC y o4 a779 S779 tb4 K8)) (wb := []) (As := [.ref (o4 0), .int (iZ 2), .int (iZ 4)]) (rest := []) ⟨mx, mb, mml, mo, mts⟩ hK hA hE (fun sz => c_L_blockBy l hl0 D sz y o4 a779 S779 tb4 K8 2 4 (by decide) (by decide) hT779) (vx_cwSW 3 mts gL_known_L_blockBy rfl rfl rfl (by decide +kernel) ⟨Nat.le_of_ble_eq_true rfl, Nat.le_of_ble_eq_true rfl⟩) (List.append_nil _).symm rfl rfl (Nat.le_of_ble_eq_true rfl) ⟨Nat.le_of_ble_eq_true rfl, Nat.le_of_ble_eq_true rfl⟩ dL_known_790 (fun r790 u790 hu790 => ?_)
    rw [List.nil_append, List.append_nil]
    obtain ⟨a790, S790⟩ := u790
    obtain ⟨hr, hT790⟩ := hu790
    replace hT790 : Tie K8 S790 := hT790
    obtain rfl : r790 = iZ 0 := hr.trans (congrArg iZ ka_790)
    show Gz pp l ee ({ frames := 11, cells := 1600, slots := 12000, locals := 206 } : Room) ss mm args below meth cd 2 868 6151 Q (Zw D vwCl (va_A wst sz) ss (wC y o4 a790 S790 tb4 K8)) 793 [(0, .ref (o4 0))] [.int (iZ 0)]
    refine z_if_ne (tgt := 846) mx mb (by decide) dL_known_793 (by decide) (fun c793 => absurd c793 (by decide)) (fun _ => ?_)
    refine z_aload_n mx mb dL_known_796 rfl 0 rfl ?_
    refine z_bipush mx mb dL_known_797 (by decide +kernel) ?_
    refine z_callSI (wa := []) (wc := (wC y o4 a790 S790 tb4 K8)) (wb := []) (As := [.ref (o4 0), .int (iZ 56)]) (rest := []) ⟨mx, mb, mml, mo, mts⟩ hK hA hE (fun sz => c_L_passing l hl0 D sz y o4 a790 S790 tb4 K8 56 (by decide) hT790) (vx_cwSW 2 mts gL_known_L_passing rfl rfl rfl (by decide +kernel) ⟨Nat.le_of_ble_eq_true rfl, Nat.le_of_ble_eq_true rfl⟩) (List.append_nil _).symm rfl rfl (Nat.le_of_ble_eq_true rfl) ⟨Nat.le_of_ble_eq_true rfl, Nat.le_of_ble_eq_true rfl⟩ dL_known_799 (fun r799 u799 hu799 => ?_)
    rw [List.nil_append, List.append_nil]
    obtain ⟨a799, S799⟩ := u799
    obtain ⟨hr, hT799⟩ := hu799
    replace hT799 : Tie (pasS K8 56) S799 := hT799
    obtain rfl : r799 = iZ 0 := hr.trans (congrArg iZ (kp_K9 hT790.1.2).2)
    show Gz pp l ee ({ frames := 11, cells := 1600, slots := 12000, locals := 206 } : Room) ss mm args below meth cd 2 869 6157 Q (Zw D vwCl (va_A wst sz) ss (wC y o4 a799 S799 tb4 (pasS K8 56))) 802 [(0, .ref (o4 0))] [.int (iZ 0)]
    replace hT799 : Tie K9 S799 := kt_K9 hT790 hT799
    rw [show wC y o4 a799 S799 tb4 (pasS K8 56) = wC y o4 a799 S799 tb4 K9 from (wC_nxt ..).symm]
    refine z_if_ne (tgt := 846) mx mb (by decide) dL_known_802 (by decide) (fun c802 => absurd c802 (by decide)) (fun _ => ?_)
    refine z_aload_n mx mb dL_known_805 rfl 0 rfl ?_
    refine z_iconst mx mb dL_known_806 ?_
    refine z_iconst mx mb dL_known_807 ?_
    refine z_callSI (wa := []) (wc := (wC y o4 a799 S799 tb4 K9)) (wb := []) (As := [.ref (o4 0), .int (iZ 0), .int (iZ 0)]) (rest := []) ⟨mx, mb, mml, mo, mts⟩ hK hA hE (fun sz => c_L_trainBy l hl0 D sz y o4 a799 S799 tb4 K9 0 0 (by decide) (by decide) hT799) (vx_cwSW 3 mts gL_known_L_trainBy rfl rfl rfl (by decide +kernel) ⟨Nat.le_of_ble_eq_true rfl, Nat.le_of_ble_eq_true rfl⟩) (List.append_nil _).symm rfl rfl (Nat.le_of_ble_eq_true rfl) ⟨Nat.le_of_ble_eq_true rfl, Nat.le_of_ble_eq_true rfl⟩ dL_known_808 (fun r808 u808 hu808 => ?_)
    rw [List.nil_append, List.append_nil]
    obtain ⟨a808, S808⟩ := u808
    obtain ⟨hr, hT808⟩ := hu808
    replace hT808 : Tie K9 S808 := hT808
    obtain rfl : r808 = iZ 0 := hr.trans (congrArg iZ ka_808)
    show Gz pp l ee ({ frames := 11, cells := 1600, slots := 12000, locals := 206 } : Room) ss mm args below meth cd 2 870 6163 Q (Zw D vwCl (va_A wst sz) ss (wC y o4 a808 S808 tb4 K9)) 811 [(0, .ref (o4 0))] [.int (iZ 0)]
    refine z_if_ne (tgt := 846) mx mb (by decide) dL_known_811 (by decide) (fun c811 => absurd c811 (by decide)) (fun _ => ?_)
    refine z_aload_n mx mb dL_known_814 rfl 0 rfl ?_
    refine z_iconst mx mb dL_known_815 ?_
    refine z_bipush mx mb dL_known_816 (by decide +kernel) ?_
    refine z_callSI (wa := []) (wc := (wC y o4 a808 S808 tb4 K9)) (wb := []) (As := [.ref (o4 0), .int (iZ 0), .int (iZ 8)]) (rest := []) ⟨mx, mb, mml, mo, mts⟩ hK hA hE (fun sz => c_L_trainBy l hl0 D sz y o4 a808 S808 tb4 K9 0 8 (by decide) (by decide) hT808) (vx_cwSW 3 mts gL_known_L_trainBy rfl rfl rfl (by decide +kernel) ⟨Nat.le_of_ble_eq_true rfl, Nat.le_of_ble_eq_true rfl⟩) (List.append_nil _).symm rfl rfl (Nat.le_of_ble_eq_true rfl) ⟨Nat.le_of_ble_eq_true rfl, Nat.le_of_ble_eq_true rfl⟩ dL_known_818 (fun r818 u818 hu818 => ?_)
    rw [List.nil_append, List.append_nil]
    obtain ⟨a818, S818⟩ := u818
    obtain ⟨hr, hT818⟩ := hu818
    replace hT818 : Tie K9 S818 := hT818
    obtain rfl : r818 = iZ 14 := hr.trans (congrArg iZ ka_818)
    show Gz pp l ee ({ frames := 11, cells := 1600, slots := 12000, locals := 206 } : Room) ss mm args below meth cd 2 871 6169 Q (Zw D vwCl (va_A wst sz) ss (wC y o4 a818 S818 tb4 K9)) 821 [(0, .ref (o4 0))] [.int (iZ 14)]
    refine z_bipush mx mb dL_known_821 (by decide +kernel) ?_
    refine z_icmp_ne (tgt := 846) mx mb (by decide) (by decide) dL_known_823 (by decide) (fun c823 => absurd c823 (by decide)) (fun _ => ?_)
    refine z_aload_n mx mb dL_known_826 rfl 0 rfl ?_
    refine z_iconst mx mb dL_known_827 ?_
    refine z_bipush mx mb dL_known_828 (by decide +kernel) ?_
    refine z_callSI (wa := []) (wc := (wC y o4 a818 S818 tb4 K9)) (wb := []) (As := [.ref (o4 0), .int (iZ 0), .int (iZ 9)]) (rest := []) ⟨mx, mb, mml, mo, mts⟩ hK hA hE (fun sz => c_L_trainBy l hl0 D sz y o4 a818 S818 tb4 K9 0 9 (by decide) (by decide) hT818) (vx_cwSW 3 mts gL_known_L_trainBy rfl rfl rfl (by decide +kernel) ⟨Nat.le_of_ble_eq_true rfl, Nat.le_of_ble_eq_true rfl⟩) (List.append_nil _).symm rfl rfl (Nat.le_of_ble_eq_true rfl) ⟨Nat.le_of_ble_eq_true rfl, Nat.le_of_ble_eq_true rfl⟩ dL_known_830 (fun r830 u830 hu830 => ?_)
    rw [List.nil_append, List.append_nil]
    obtain ⟨a830, S830⟩ := u830
    obtain ⟨hr, hT830⟩ := hu830
    replace hT830 : Tie K9 S830 := hT830
    obtain rfl : r830 = iZ 1 := hr.trans (congrArg iZ ka_830)
    show Gz pp l ee ({ frames := 11, cells := 1600, slots := 12000, locals := 206 } : Room) ss mm args below meth cd 2 872 6175 Q (Zw D vwCl (va_A wst sz) ss (wC y o4 a830 S830 tb4 K9)) 833 [(0, .ref (o4 0))] [.int (iZ 1)]
    refine z_iconst mx mb dL_known_833 ?_
    refine z_icmp_ne (tgt := 846) mx mb (by decide) (by decide) dL_known_834 (by decide) (fun c834 => absurd c834 (by decide)) (fun _ => ?_)
    refine z_aload_n mx mb dL_known_837 rfl 0 rfl ?_
    refine z_iconst mx mb dL_known_838 ?_
    refine z_iconst mx mb dL_known_839 ?_
    refine z_callSE (wa := []) (wc := (wC y o4 a830 S830 tb4 K9)) (wb := []) (As := [.ref (o4 0), .int (iZ 0), .int (iZ 4)]) (rest := []) ⟨mx, mb, mml, mo, mts⟩ hK hA hE (fun sz => c_L_isDigest l hl0 D sz y o4 a830 S830 tb4 K9 0 4 (by decide +kernel) (by decide +kernel) hT830) (cwS 3 mts gL_known_L_isDigest rfl rfl rfl (by decide +kernel) ⟨Nat.le_of_ble_eq_true rfl, Nat.le_of_ble_eq_true rfl⟩) (List.append_nil _).symm rfl rfl (Nat.le_of_ble_eq_true rfl) ⟨Nat.le_of_ble_eq_true rfl, Nat.le_of_ble_eq_true rfl⟩ dL_known_840 (fun r840 u840 hu840 => ?_)
    rw [List.nil_append, List.append_nil]
    obtain ⟨a840, S840⟩ := u840
    obtain ⟨hr, hT840⟩ := hu840
    replace hT840 : Tie K9 S840 := hT840
    obtain rfl : r840 = iZ 1 := hr
    show Gz pp l ee ({ frames := 11, cells := 1600, slots := 12000, locals := 206 } : Room) ss mm args below meth cd 2 1372 9175 Q (Zw D vwCl (va_A wst sz) ss (wC y o4 a840 S840 tb4 K9)) 843 [(0, .ref (o4 0))] [.int (iZ 1)]
    refine z_if_ne (tgt := 848) mx mb (by decide) dL_known_843 (by decide) (fun _ => ?_) (fun c843 => absurd c843 (by decide))
    refine z_aload_n mx mb dL_known_848 rfl 0 rfl ?_
    refine z_iconst mx mb dL_known_849 ?_
    refine z_bipush mx mb dL_known_850 (by decide +kernel) ?_
    refine z_callSI (wa := []) (wc := (wC y o4 a840 S840 tb4 K9)) (wb := []) (As := [.ref (o4 0), .int (iZ 5), .int (iZ 9)]) (rest := []) ⟨mx, mb, mml, mo, mts⟩ hK hA hE (fun sz => c_L_heighten l hl0 D sz y o4 a840 S840 tb4 K9 5 9 (by decide) (by decide) hT840) (vx_cwSW 3 mts gL_known_L_heighten rfl rfl rfl (by decide +kernel) ⟨Nat.le_of_ble_eq_true rfl, Nat.le_of_ble_eq_true rfl⟩) (List.append_nil _).symm rfl rfl (Nat.le_of_ble_eq_true rfl) ⟨Nat.le_of_ble_eq_true rfl, Nat.le_of_ble_eq_true rfl⟩ dL_known_852 (fun r852 u852 hu852 => ?_)
    rw [List.nil_append, List.append_nil]
    obtain ⟨a852, S852⟩ := u852
    obtain ⟨hr, hT852⟩ := hu852
    replace hT852 : Tie (hgtS K9 5 9) S852 := hT852
    obtain rfl : r852 = iZ 7 := hr.trans (congrArg iZ kv_K10)
    show Gz pp l ee ({ frames := 11, cells := 1600, slots := 12000, locals := 206 } : Room) ss mm args below meth cd 2 1373 9181 Q (Zw D vwCl (va_A wst sz) ss (wC y o4 a852 S852 tb4 (hgtS K9 5 9))) 855 [(0, .ref (o4 0))] [.int (iZ 7)]
    replace hT852 : Tie K10 S852 := kt_K10 hT852
    rw [show wC y o4 a852 S852 tb4 (hgtS K9 5 9) = wC y o4 a852 S852 tb4 K10 from (wC_nxt ..).symm]
    refine z_bipush mx mb dL_known_855 (by decide +kernel) ?_
    refine z_icmp_ne (tgt := 1028) mx mb (by decide) (by decide) dL_known_857 (by decide) (fun c857 => absurd c857 (by decide)) (fun _ => ?_)
    refine z_aload_n mx mb dL_known_860 rfl 0 rfl ?_
    refine z_iconst mx mb dL_known_861 ?_
    refine z_callSI (wa := []) (wc := (wC y o4 a852 S852 tb4 K10)) (wb := []) (As := [.ref (o4 0), .int (iZ 4)]) (rest := []) ⟨mx, mb, mml, mo, mts⟩ hK hA hE (fun sz => c_L_least l hl0 D sz y o4 a852 S852 tb4 K10 4 (by decide) hT852) (vx_cwSW 2 mts gL_known_L_least rfl rfl rfl (by decide +kernel) ⟨Nat.le_of_ble_eq_true rfl, Nat.le_of_ble_eq_true rfl⟩) (List.append_nil _).symm rfl rfl (Nat.le_of_ble_eq_true rfl) ⟨Nat.le_of_ble_eq_true rfl, Nat.le_of_ble_eq_true rfl⟩ dL_known_862 (fun r862 u862 hu862 => ?_)
    rw [List.nil_append, List.append_nil]
    obtain ⟨a862, S862⟩ := u862
    obtain ⟨hr, hT862⟩ := hu862
    replace hT862 : Tie K10 S862 := hT862
    obtain rfl : r862 = iZ 203 := hr.trans (congrArg iZ ka_862)
    show Gz pp l ee ({ frames := 11, cells := 1600, slots := 12000, locals := 206 } : Room) ss mm args below meth cd 2 1374 9187 Q (Zw D vwCl (va_A wst sz) ss (wC y o4 a862 S862 tb4 K10)) 865 [(0, .ref (o4 0))] [.int (iZ 203)]
    refine z_sipush mx mb dL_known_865 (by decide +kernel) ?_
    refine z_icmp_ne (tgt := 1028) mx mb (by decide) (by decide) dL_known_868 (by decide) (fun c868 => absurd c868 (by decide)) (fun _ => ?_)
    refine z_aload_n mx mb dL_known_871 rfl 0 rfl ?_
    refine z_iconst mx mb dL_known_872 ?_
    refine z_callSI (wa := []) (wc := (wC y o4 a862 S862 tb4 K10)) (wb := []) (As := [.ref (o4 0), .int (iZ 3)]) (rest := []) ⟨mx, mb, mml, mo, mts⟩ hK hA hE (fun sz => c_L_least l hl0 D sz y o4 a862 S862 tb4 K10 3 (by decide) hT862) (vx_cwSW 2 mts gL_known_L_least rfl rfl rfl (by decide +kernel) ⟨Nat.le_of_ble_eq_true rfl, Nat.le_of_ble_eq_true rfl⟩) (List.append_nil _).symm rfl rfl (Nat.le_of_ble_eq_true rfl) ⟨Nat.le_of_ble_eq_true rfl, Nat.le_of_ble_eq_true rfl⟩ dL_known_873 (fun r873 u873 hu873 => ?_)
    rw [List.nil_append, List.append_nil]
    obtain ⟨a873, S873⟩ := u873
    obtain ⟨hr, hT873⟩ := hu873
    replace hT873 : Tie K10 S873 := hT873
    obtain rfl : r873 = iZ (-1) := hr.trans (congrArg iZ ka_873)
    show Gz pp l ee ({ frames := 11, cells := 1600, slots := 12000, locals := 206 } : Room) ss mm args below meth cd 2 1375 9193 Q (Zw D vwCl (va_A wst sz) ss (wC y o4 a873 S873 tb4 K10)) 876 [(0, .ref (o4 0))] [.int (iZ (-1))]
    refine z_iconst mx mb dL_known_876 ?_
    refine z_icmp_ne (tgt := 1028) mx mb (by decide) (by decide) dL_known_877 (by decide) (fun c877 => absurd c877 (by decide)) (fun _ => ?_)
    refine z_aload_n mx mb dL_known_880 rfl 0 rfl ?_
    refine z_callI (wa := []) (wc := (wC y o4 a873 S873 tb4 K10)) (wb := []) (As := []) (rest := []) ⟨mx, mb, mml, mo, mts⟩ hK hA (fun sz => c_X4_ticksToValley l D sz y o4 a873 S873 tb4 K10.2.2.2.1 K10.2.2.2.2 K10.2.2.1 K10.1 hT873.1.1 hT873.1.2.1 hT873.1.2.2.1) (cwV 0 mts gL_known_X4_ticksToValley rfl rfl rfl (by decide +kernel) ⟨Nat.le_of_ble_eq_true rfl, Nat.le_of_ble_eq_true rfl⟩) (List.append_nil _).symm 0 wB_0 rfl rfl rfl rfl (Nat.le_of_ble_eq_true rfl) ⟨Nat.le_of_ble_eq_true rfl, Nat.le_of_ble_eq_true rfl⟩ dL_known_881 (fun r881 u881 hu881 => ?_)
    rw [List.nil_append, List.append_nil]
    obtain ⟨hr, hv0⟩ := hu881
    have hT881 : Tie K10 u881 := tie_trial hT873 hv0
    obtain rfl : r881 = iZ 105 := hr.trans (congrArg iZ (qv_10 hT873.1.2))
    show Gz pp l ee ({ frames := 11, cells := 1600, slots := 12000, locals := 206 } : Room) ss mm args below meth cd 2 1375 9193 Q (Zw D vwCl (va_A wst sz) ss (wC y o4 a873 u881 tb4 K10)) 884 [(0, .ref (o4 0))] [.int (iZ 105)]
    refine z_bipush mx mb dL_known_884 (by decide +kernel) ?_
    refine z_icmp_ne (tgt := 1028) mx mb (by decide) (by decide) dL_known_886 (by decide) (fun c886 => absurd c886 (by decide)) (fun _ => ?_)
    refine z_aload_n mx mb dL_known_889 rfl 0 rfl ?_
    refine z_iconst mx mb dL_known_890 ?_
    refine z_callSI (wa := []) (wc := (wC y o4 a873 u881 tb4 K10)) (wb := []) (As := [.ref (o4 0), .int (iZ 0)]) (rest := []) ⟨mx, mb, mml, mo, mts⟩ hK hA hE (fun sz => c_L_toStation l hl0 D sz y o4 a873 u881 tb4 K10 0 (by decide) hT881) (vx_cwSW 2 mts gL_known_L_toStation rfl rfl rfl (by decide +kernel) ⟨Nat.le_of_ble_eq_true rfl, Nat.le_of_ble_eq_true rfl⟩) (List.append_nil _).symm rfl rfl (Nat.le_of_ble_eq_true rfl) ⟨Nat.le_of_ble_eq_true rfl, Nat.le_of_ble_eq_true rfl⟩ dL_known_891 (fun r891 u891 hu891 => ?_)
    rw [List.nil_append, List.append_nil]
    obtain ⟨a891, S891⟩ := u891
    obtain ⟨hr, hT891⟩ := hu891
    replace hT891 : Tie K10 S891 := hT891
    obtain rfl : r891 = iZ (-1) := hr.trans (congrArg iZ (qs_10 hT881.1.2))
    show Gz pp l ee ({ frames := 11, cells := 1600, slots := 12000, locals := 206 } : Room) ss mm args below meth cd 2 1376 9199 Q (Zw D vwCl (va_A wst sz) ss (wC y o4 a891 S891 tb4 K10)) 894 [(0, .ref (o4 0))] [.int (iZ (-1))]
    refine z_iconst mx mb dL_known_894 ?_
    refine z_icmp_ne (tgt := 1028) mx mb (by decide) (by decide) dL_known_895 (by decide) (fun c895 => absurd c895 (by decide)) (fun _ => ?_)
    refine z_aload_n mx mb dL_known_898 rfl 0 rfl ?_
    refine z_callIE (wa := []) (wc := (wC y o4 a891 S891 tb4 K10)) (wb := []) (As := []) (rest := []) ⟨mx, mb, mml, mo, mts⟩ hK hA hE (fun sz => c_X4_mostFriction l D sz y o4 a891 S891 tb4 K10.2.2.2.1 K10.2.2.2.2 K10.2.2.1 K10.1 hT891.1.1 hT891.1.2.1 hT891.1.2.2.1) (cwV 0 mts gL_known_X4_mostFriction rfl rfl rfl (by decide +kernel) ⟨Nat.le_of_ble_eq_true rfl, Nat.le_of_ble_eq_true rfl⟩) (List.append_nil _).symm 0 wB_0 rfl rfl rfl rfl (Nat.le_of_ble_eq_true rfl) ⟨Nat.le_of_ble_eq_true rfl, Nat.le_of_ble_eq_true rfl⟩ dL_known_899 (fun r899 u899 hu899 => ?_)
    rw [List.nil_append, List.append_nil]
    obtain ⟨hr, hv0⟩ := hu899
    have hT899 : Tie K10 u899 := tie_trial hT891 hv0
    obtain rfl : r899 = iZ (-1) := hr.trans (congrArg iZ (qm_10 hT891.1.2))
    show Gz pp l ee ({ frames := 11, cells := 1600, slots := 12000, locals := 206 } : Room) ss mm args below meth cd 2 1376 9199 Q (Zw D vwCl (va_A wst sz) ss (wC y o4 a891 u899 tb4 K10)) 902 [(0, .ref (o4 0))] [.int (iZ (-1))]
    refine z_iconst mx mb dL_known_902 ?_
    refine z_icmp_ne (tgt := 1028) mx mb (by decide) (by decide) dL_known_903 (by decide) (fun c903 => absurd c903 (by decide)) (fun _ => ?_)
    refine z_aload_n mx mb dL_known_906 rfl 0 rfl ?_
    refine z_bipush mx mb dL_known_907 (by decide +kernel) ?_
    refine z_callSI (wa := []) (wc := (wC y o4 a891 u899 tb4 K10)) (wb := []) (As := [.ref (o4 0), .int (iZ 104)]) (rest := []) ⟨mx, mb, mml, mo, mts⟩ hK hA hE (fun sz => c_L_passing l hl0 D sz y o4 a891 u899 tb4 K10 104 (by decide) hT899) (vx_cwSW 2 mts gL_known_L_passing rfl rfl rfl (by decide +kernel) ⟨Nat.le_of_ble_eq_true rfl, Nat.le_of_ble_eq_true rfl⟩) (List.append_nil _).symm rfl rfl (Nat.le_of_ble_eq_true rfl) ⟨Nat.le_of_ble_eq_true rfl, Nat.le_of_ble_eq_true rfl⟩ dL_known_909 (fun r909 u909 hu909 => ?_)
    rw [List.nil_append, List.append_nil]
    obtain ⟨a909, S909⟩ := u909
    obtain ⟨hr, hT909⟩ := hu909
    replace hT909 : Tie (pasS K10 104) S909 := hT909
    obtain rfl : r909 = iZ 1 := hr.trans (congrArg iZ (kp_K11 hT899.1.2).2)
    show Gz pp l ee ({ frames := 11, cells := 1600, slots := 12000, locals := 206 } : Room) ss mm args below meth cd 2 1377 9205 Q (Zw D vwCl (va_A wst sz) ss (wC y o4 a909 S909 tb4 (pasS K10 104))) 912 [(0, .ref (o4 0))] [.int (iZ 1)]
    replace hT909 : Tie K11 S909 := kt_K11 hT899 hT909
    rw [show wC y o4 a909 S909 tb4 (pasS K10 104) = wC y o4 a909 S909 tb4 K11 from (wC_nxt ..).symm]
    refine z_iconst mx mb dL_known_912 ?_
    refine z_icmp_ne (tgt := 1028) mx mb (by decide) (by decide) dL_known_913 (by decide) (fun c913 => absurd c913 (by decide)) (fun _ => ?_)
    refine z_aload_n mx mb dL_known_916 rfl 0 rfl ?_
    refine z_bipush mx mb dL_known_917 (by decide +kernel) ?_
    refine z_callSI (wa := []) (wc := (wC y o4 a909 S909 tb4 K11)) (wb := []) (As := [.ref (o4 0), .int (iZ 10)]) (rest := []) ⟨mx, mb, mml, mo, mts⟩ hK hA hE (fun sz => c_L_all l hl0 D sz y o4 a909 S909 tb4 K11 10 (by decide) hT909) (vx_cwSW 2 mts gL_known_L_all rfl rfl rfl (by decide +kernel) ⟨Nat.le_of_ble_eq_true rfl, Nat.le_of_ble_eq_true rfl⟩) (List.append_nil _).symm rfl rfl (Nat.le_of_ble_eq_true rfl) ⟨Nat.le_of_ble_eq_true rfl, Nat.le_of_ble_eq_true rfl⟩ dL_known_919 (fun r919 u919 hu919 => ?_)
    rw [List.nil_append, List.append_nil]
    obtain ⟨a919, S919⟩ := u919
    obtain ⟨hr, hT919⟩ := hu919
    replace hT919 : Tie K11 S919 := hT919
    obtain rfl : r919 = iZ 0 := hr.trans (congrArg iZ ka_919)
    show Gz pp l ee ({ frames := 11, cells := 1600, slots := 12000, locals := 206 } : Room) ss mm args below meth cd 2 1378 9211 Q (Zw D vwCl (va_A wst sz) ss (wC y o4 a919 S919 tb4 K11)) 922 [(0, .ref (o4 0))] [.int (iZ 0)]
    refine z_if_ne (tgt := 1028) mx mb (by decide) dL_known_922 (by decide) (fun c922 => absurd c922 (by decide)) (fun _ => ?_)
    refine z_aload_n mx mb dL_known_925 rfl 0 rfl ?_
    refine z_iconst mx mb dL_known_926 ?_
    refine z_callSI (wa := []) (wc := (wC y o4 a919 S919 tb4 K11)) (wb := []) (As := [.ref (o4 0), .int (iZ 1)]) (rest := []) ⟨mx, mb, mml, mo, mts⟩ hK hA hE (fun sz => c_L_passing l hl0 D sz y o4 a919 S919 tb4 K11 1 (by decide) hT919) (vx_cwSW 2 mts gL_known_L_passing rfl rfl rfl (by decide +kernel) ⟨Nat.le_of_ble_eq_true rfl, Nat.le_of_ble_eq_true rfl⟩) (List.append_nil _).symm rfl rfl (Nat.le_of_ble_eq_true rfl) ⟨Nat.le_of_ble_eq_true rfl, Nat.le_of_ble_eq_true rfl⟩ dL_known_927 (fun r927 u927 hu927 => ?_)
    rw [List.nil_append, List.append_nil]
    obtain ⟨a927, S927⟩ := u927
    obtain ⟨hr, hT927⟩ := hu927
    replace hT927 : Tie (pasS K11 1) S927 := hT927
    obtain rfl : r927 = iZ 0 := hr.trans (congrArg iZ (kp_K12 hT919.1.2).2)
    show Gz pp l ee ({ frames := 11, cells := 1600, slots := 12000, locals := 206 } : Room) ss mm args below meth cd 2 1379 9217 Q (Zw D vwCl (va_A wst sz) ss (wC y o4 a927 S927 tb4 (pasS K11 1))) 930 [(0, .ref (o4 0))] [.int (iZ 0)]
    replace hT927 : Tie K12 S927 := kt_K12 hT919 hT927
    rw [show wC y o4 a927 S927 tb4 (pasS K11 1) = wC y o4 a927 S927 tb4 K12 from (wC_nxt ..).symm]
    refine z_if_ne (tgt := 1028) mx mb (by decide) dL_known_930 (by decide) (fun c930 => absurd c930 (by decide)) (fun _ => ?_)
    refine z_aload_n mx mb dL_known_933 rfl 0 rfl ?_
    refine z_iconst mx mb dL_known_934 ?_
    refine z_iconst mx mb dL_known_935 ?_
    refine z_callSI (wa := []) (wc := (wC y o4 a927 S927 tb4 K12)) (wb := []) (As := [.ref (o4 0), .int (iZ 0), .int (iZ 5)]) (rest := []) ⟨mx, mb, mml, mo, mts⟩ hK hA hE (fun sz => c_L_trainBy l hl0 D sz y o4 a927 S927 tb4 K12 0 5 (by decide) (by decide) hT927) (vx_cwSW 3 mts gL_known_L_trainBy rfl rfl rfl (by decide +kernel) ⟨Nat.le_of_ble_eq_true rfl, Nat.le_of_ble_eq_true rfl⟩) (List.append_nil _).symm rfl rfl (Nat.le_of_ble_eq_true rfl) ⟨Nat.le_of_ble_eq_true rfl, Nat.le_of_ble_eq_true rfl⟩ dL_known_936 (fun r936 u936 hu936 => ?_)
    rw [List.nil_append, List.append_nil]
    obtain ⟨a936, S936⟩ := u936
    obtain ⟨hr, hT936⟩ := hu936
    replace hT936 : Tie K12 S936 := hT936
    obtain rfl : r936 = iZ 2 := hr.trans (congrArg iZ ka_936)
    show Gz pp l ee ({ frames := 11, cells := 1600, slots := 12000, locals := 206 } : Room) ss mm args below meth cd 2 1380 9223 Q (Zw D vwCl (va_A wst sz) ss (wC y o4 a936 S936 tb4 K12)) 939 [(0, .ref (o4 0))] [.int (iZ 2)]
    refine z_iconst mx mb dL_known_939 ?_
    refine z_icmp_ne (tgt := 1028) mx mb (by decide) (by decide) dL_known_940 (by decide) (fun c940 => absurd c940 (by decide)) (fun _ => ?_)
    refine z_aload_n mx mb dL_known_943 rfl 0 rfl ?_
    refine z_iconst mx mb dL_known_944 ?_
    refine z_iconst mx mb dL_known_945 ?_
    refine z_callSI (wa := []) (wc := (wC y o4 a936 S936 tb4 K12)) (wb := []) (As := [.ref (o4 0), .int (iZ 0), .int (iZ 0)]) (rest := []) ⟨mx, mb, mml, mo, mts⟩ hK hA hE (fun sz => c_L_trainBy l hl0 D sz y o4 a936 S936 tb4 K12 0 0 (by decide) (by decide) hT936) (vx_cwSW 3 mts gL_known_L_trainBy rfl rfl rfl (by decide +kernel) ⟨Nat.le_of_ble_eq_true rfl, Nat.le_of_ble_eq_true rfl⟩) (List.append_nil _).symm rfl rfl (Nat.le_of_ble_eq_true rfl) ⟨Nat.le_of_ble_eq_true rfl, Nat.le_of_ble_eq_true rfl⟩ dL_known_946 (fun r946 u946 hu946 => ?_)
    rw [List.nil_append, List.append_nil]
    obtain ⟨a946, S946⟩ := u946
    obtain ⟨hr, hT946⟩ := hu946
    replace hT946 : Tie K12 S946 := hT946
    obtain rfl : r946 = iZ 4 := hr.trans (congrArg iZ ka_946)
    show Gz pp l ee ({ frames := 11, cells := 1600, slots := 12000, locals := 206 } : Room) ss mm args below meth cd 2 1381 9229 Q (Zw D vwCl (va_A wst sz) ss (wC y o4 a946 S946 tb4 K12)) 949 [(0, .ref (o4 0))] [.int (iZ 4)]
    refine z_iconst mx mb dL_known_949 ?_
    refine z_icmp_ne (tgt := 1028) mx mb (by decide) (by decide) dL_known_950 (by decide) (fun c950 => absurd c950 (by decide)) (fun _ => ?_)
    refine z_aload_n mx mb dL_known_953 rfl 0 rfl ?_
    refine z_iconst mx mb dL_known_954 ?_
    refine z_callSI (wa := []) (wc := (wC y o4 a946 S946 tb4 K12)) (wb := []) (As := [.ref (o4 0), .int (iZ 0)]) (rest := []) ⟨mx, mb, mml, mo, mts⟩ hK hA hE (fun sz => c_L_reason l hl0 D sz y o4 a946 S946 tb4 K12 0 (by decide) hT946) (vx_cwSW 2 mts gL_known_L_reason rfl rfl rfl (by decide +kernel) ⟨Nat.le_of_ble_eq_true rfl, Nat.le_of_ble_eq_true rfl⟩) (List.append_nil _).symm rfl rfl (Nat.le_of_ble_eq_true rfl) ⟨Nat.le_of_ble_eq_true rfl, Nat.le_of_ble_eq_true rfl⟩ dL_known_955 (fun r955 u955 hu955 => ?_)
    rw [List.nil_append, List.append_nil]
    obtain ⟨a955, S955⟩ := u955
    obtain ⟨hr, hT955⟩ := hu955
    replace hT955 : Tie K12 S955 := hT955
    obtain rfl : r955 = iZ 1 := hr.trans (congrArg iZ ka_955)
    show Gz pp l ee ({ frames := 11, cells := 1600, slots := 12000, locals := 206 } : Room) ss mm args below meth cd 2 1382 9235 Q (Zw D vwCl (va_A wst sz) ss (wC y o4 a955 S955 tb4 K12)) 958 [(0, .ref (o4 0))] [.int (iZ 1)]
    refine z_iconst mx mb dL_known_958 ?_
    refine z_icmp_ne (tgt := 1028) mx mb (by decide) (by decide) dL_known_959 (by decide) (fun c959 => absurd c959 (by decide)) (fun _ => ?_)
    refine z_aload_n mx mb dL_known_962 rfl 0 rfl ?_
    refine z_bipush mx mb dL_known_963 (by decide +kernel) ?_
    refine z_callSI (wa := []) (wc := (wC y o4 a955 S955 tb4 K12)) (wb := []) (As := [.ref (o4 0), .int (iZ 10)]) (rest := []) ⟨mx, mb, mml, mo, mts⟩ hK hA hE (fun sz => c_L_all l hl0 D sz y o4 a955 S955 tb4 K12 10 (by decide) hT955) (vx_cwSW 2 mts gL_known_L_all rfl rfl rfl (by decide +kernel) ⟨Nat.le_of_ble_eq_true rfl, Nat.le_of_ble_eq_true rfl⟩) (List.append_nil _).symm rfl rfl (Nat.le_of_ble_eq_true rfl) ⟨Nat.le_of_ble_eq_true rfl, Nat.le_of_ble_eq_true rfl⟩ dL_known_965 (fun r965 u965 hu965 => ?_)
    rw [List.nil_append, List.append_nil]
    obtain ⟨a965, S965⟩ := u965
    obtain ⟨hr, hT965⟩ := hu965
    replace hT965 : Tie K12 S965 := hT965
    obtain rfl : r965 = iZ 1 := hr.trans (congrArg iZ ka_965)
    show Gz pp l ee ({ frames := 11, cells := 1600, slots := 12000, locals := 206 } : Room) ss mm args below meth cd 2 1383 9241 Q (Zw D vwCl (va_A wst sz) ss (wC y o4 a965 S965 tb4 K12)) 968 [(0, .ref (o4 0))] [.int (iZ 1)]
    refine z_iconst mx mb dL_known_968 ?_
    refine z_icmp_ne (tgt := 1028) mx mb (by decide) (by decide) dL_known_969 (by decide) (fun c969 => absurd c969 (by decide)) (fun _ => ?_)
    refine z_aload_n mx mb dL_known_972 rfl 0 rfl ?_
    refine z_iconst mx mb dL_known_973 ?_
    refine z_callSI (wa := []) (wc := (wC y o4 a965 S965 tb4 K12)) (wb := []) (As := [.ref (o4 0), .int (iZ 0)]) (rest := []) ⟨mx, mb, mml, mo, mts⟩ hK hA hE (fun sz => c_L_rescuing l hl0 D sz y o4 a965 S965 tb4 K12 0 (by decide) hT965) (vx_cwSW 2 mts gL_known_L_rescuing rfl rfl rfl (by decide +kernel) ⟨Nat.le_of_ble_eq_true rfl, Nat.le_of_ble_eq_true rfl⟩) (List.append_nil _).symm rfl rfl (Nat.le_of_ble_eq_true rfl) ⟨Nat.le_of_ble_eq_true rfl, Nat.le_of_ble_eq_true rfl⟩ dL_known_974 (fun r974 u974 hu974 => ?_)
    rw [List.nil_append, List.append_nil]
    obtain ⟨a974, S974⟩ := u974
    obtain ⟨hr, hT974⟩ := hu974
    replace hT974 : Tie (resS K12 0) S974 := hT974
    obtain rfl : r974 = iZ 4 := hr.trans (congrArg iZ kv_K13)
    show Gz pp l ee ({ frames := 11, cells := 1600, slots := 12000, locals := 206 } : Room) ss mm args below meth cd 2 1384 9247 Q (Zw D vwCl (va_A wst sz) ss (wC y o4 a974 S974 tb4 (resS K12 0))) 977 [(0, .ref (o4 0))] [.int (iZ 4)]
    replace hT974 : Tie K13 S974 := kt_K13 hT974
    rw [show wC y o4 a974 S974 tb4 (resS K12 0) = wC y o4 a974 S974 tb4 K13 from (wC_nxt ..).symm]
    refine z_iconst mx mb dL_known_977 ?_
    refine z_icmp_ne (tgt := 1028) mx mb (by decide) (by decide) dL_known_978 (by decide) (fun c978 => absurd c978 (by decide)) (fun _ => ?_)
    refine z_aload_n mx mb dL_known_981 rfl 0 rfl ?_
    refine z_iconst mx mb dL_known_982 ?_
    refine z_iconst mx mb dL_known_983 ?_
    refine z_callSI (wa := []) (wc := (wC y o4 a974 S974 tb4 K13)) (wb := []) (As := [.ref (o4 0), .int (iZ 0), .int (iZ 0)]) (rest := []) ⟨mx, mb, mml, mo, mts⟩ hK hA hE (fun sz => c_L_trainBy l hl0 D sz y o4 a974 S974 tb4 K13 0 0 (by decide) (by decide) hT974) (vx_cwSW 3 mts gL_known_L_trainBy rfl rfl rfl (by decide +kernel) ⟨Nat.le_of_ble_eq_true rfl, Nat.le_of_ble_eq_true rfl⟩) (List.append_nil _).symm rfl rfl (Nat.le_of_ble_eq_true rfl) ⟨Nat.le_of_ble_eq_true rfl, Nat.le_of_ble_eq_true rfl⟩ dL_known_984 (fun r984 u984 hu984 => ?_)
    rw [List.nil_append, List.append_nil]
    obtain ⟨a984, S984⟩ := u984
    obtain ⟨hr, hT984⟩ := hu984
    replace hT984 : Tie K13 S984 := hT984
    obtain rfl : r984 = iZ 5 := hr.trans (congrArg iZ ka_984)
    show Gz pp l ee ({ frames := 11, cells := 1600, slots := 12000, locals := 206 } : Room) ss mm args below meth cd 2 1385 9253 Q (Zw D vwCl (va_A wst sz) ss (wC y o4 a984 S984 tb4 K13)) 987 [(0, .ref (o4 0))] [.int (iZ 5)]
    refine z_iconst mx mb dL_known_987 ?_
    refine z_icmp_ne (tgt := 1028) mx mb (by decide) (by decide) dL_known_988 (by decide) (fun c988 => absurd c988 (by decide)) (fun _ => ?_)
    refine z_aload_n mx mb dL_known_991 rfl 0 rfl ?_
    refine z_iconst mx mb dL_known_992 ?_
    refine z_iconst mx mb dL_known_993 ?_
    refine z_callSI (wa := []) (wc := (wC y o4 a984 S984 tb4 K13)) (wb := []) (As := [.ref (o4 0), .int (iZ 0), .int (iZ 5)]) (rest := []) ⟨mx, mb, mml, mo, mts⟩ hK hA hE (fun sz => c_L_trainBy l hl0 D sz y o4 a984 S984 tb4 K13 0 5 (by decide) (by decide) hT984) (vx_cwSW 3 mts gL_known_L_trainBy rfl rfl rfl (by decide +kernel) ⟨Nat.le_of_ble_eq_true rfl, Nat.le_of_ble_eq_true rfl⟩) (List.append_nil _).symm rfl rfl (Nat.le_of_ble_eq_true rfl) ⟨Nat.le_of_ble_eq_true rfl, Nat.le_of_ble_eq_true rfl⟩ dL_known_994 (fun r994 u994 hu994 => ?_)
    rw [List.nil_append, List.append_nil]
    obtain ⟨a994, S994⟩ := u994
    obtain ⟨hr, hT994⟩ := hu994
    replace hT994 : Tie K13 S994 := hT994
    obtain rfl : r994 = iZ 1 := hr.trans (congrArg iZ ka_994)
    show Gz pp l ee ({ frames := 11, cells := 1600, slots := 12000, locals := 206 } : Room) ss mm args below meth cd 2 1386 9259 Q (Zw D vwCl (va_A wst sz) ss (wC y o4 a994 S994 tb4 K13)) 997 [(0, .ref (o4 0))] [.int (iZ 1)]
    refine z_iconst mx mb dL_known_997 ?_
    refine z_icmp_ne (tgt := 1028) mx mb (by decide) (by decide) dL_known_998 (by decide) (fun c998 => absurd c998 (by decide)) (fun _ => ?_)
    refine z_aload_n mx mb dL_known_1001 rfl 0 rfl ?_
    refine z_iconst mx mb dL_known_1002 ?_
    refine z_bipush mx mb dL_known_1003 (by decide +kernel) ?_
    refine z_callSI (wa := []) (wc := (wC y o4 a994 S994 tb4 K13)) (wb := []) (As := [.ref (o4 0), .int (iZ 0), .int (iZ 8)]) (rest := []) ⟨mx, mb, mml, mo, mts⟩ hK hA hE (fun sz => c_L_trainBy l hl0 D sz y o4 a994 S994 tb4 K13 0 8 (by decide) (by decide) hT994) (vx_cwSW 3 mts gL_known_L_trainBy rfl rfl rfl (by decide +kernel) ⟨Nat.le_of_ble_eq_true rfl, Nat.le_of_ble_eq_true rfl⟩) (List.append_nil _).symm rfl rfl (Nat.le_of_ble_eq_true rfl) ⟨Nat.le_of_ble_eq_true rfl, Nat.le_of_ble_eq_true rfl⟩ dL_known_1005 (fun r1005 u1005 hu1005 => ?_)
    rw [List.nil_append, List.append_nil]
    obtain ⟨a1005, S1005⟩ := u1005
    obtain ⟨hr, hT1005⟩ := hu1005
    replace hT1005 : Tie K13 S1005 := hT1005
    obtain rfl : r1005 = iZ 18 := hr.trans (congrArg iZ ka_1005)
    show Gz pp l ee ({ frames := 11, cells := 1600, slots := 12000, locals := 206 } : Room) ss mm args below meth cd 2 1387 9265 Q (Zw D vwCl (va_A wst sz) ss (wC y o4 a1005 S1005 tb4 K13)) 1008 [(0, .ref (o4 0))] [.int (iZ 18)]
    refine z_bipush mx mb dL_known_1008 (by decide +kernel) ?_
    refine z_icmp_ne (tgt := 1028) mx mb (by decide) (by decide) dL_known_1010 (by decide) (fun c1010 => absurd c1010 (by decide)) (fun _ => ?_)
    refine z_aload_n mx mb dL_known_1013 rfl 0 rfl ?_
    refine z_callSI (wa := []) (wc := (wC y o4 a1005 S1005 tb4 K13)) (wb := []) (As := [.ref (o4 0)]) (rest := []) ⟨mx, mb, mml, mo, mts⟩ hK hA hE (fun sz => c_L_taking l hl0 D sz y o4 a1005 S1005 tb4 K13   hT1005) (vx_cwSW 1 mts gL_known_L_taking rfl rfl rfl (by decide +kernel) ⟨Nat.le_of_ble_eq_true rfl, Nat.le_of_ble_eq_true rfl⟩) (List.append_nil _).symm rfl rfl (Nat.le_of_ble_eq_true rfl) ⟨Nat.le_of_ble_eq_true rfl, Nat.le_of_ble_eq_true rfl⟩ dL_known_1014 (fun r1014 u1014 hu1014 => ?_)
    rw [List.nil_append, List.append_nil]
    obtain ⟨a1014, S1014⟩ := u1014
    obtain ⟨hr, hT1014⟩ := hu1014
    replace hT1014 : Tie (takS K13) S1014 := hT1014
    obtain rfl : r1014 = iZ 0 := hr.trans (congrArg iZ kv_K14)
    show Gz pp l ee ({ frames := 11, cells := 1600, slots := 12000, locals := 206 } : Room) ss mm args below meth cd 2 1388 9271 Q (Zw D vwCl (va_A wst sz) ss (wC y o4 a1014 S1014 tb4 (takS K13))) 1017 [(0, .ref (o4 0))] [.int (iZ 0)]
    replace hT1014 : Tie K14 S1014 := kt_K14 hT1014
    rw [show wC y o4 a1014 S1014 tb4 (takS K13) = wC y o4 a1014 S1014 tb4 K14 from (wC_nxt ..).symm]
    refine z_if_ne (tgt := 1028) mx mb (by decide) dL_known_1017 (by decide) (fun c1017 => absurd c1017 (by decide)) (fun _ => ?_)
    refine z_aload_n mx mb dL_known_1020 rfl 0 rfl ?_
    refine z_iconst mx mb dL_known_1021 ?_
    refine z_callSI (wa := []) (wc := (wC y o4 a1014 S1014 tb4 K14)) (wb := []) (As := [.ref (o4 0), .int (iZ 2)]) (rest := []) ⟨mx, mb, mml, mo, mts⟩ hK hA hE (fun sz => c_L_all l hl0 D sz y o4 a1014 S1014 tb4 K14 2 (by decide) hT1014) (vx_cwSW 2 mts gL_known_L_all rfl rfl rfl (by decide +kernel) ⟨Nat.le_of_ble_eq_true rfl, Nat.le_of_ble_eq_true rfl⟩) (List.append_nil _).symm rfl rfl (Nat.le_of_ble_eq_true rfl) ⟨Nat.le_of_ble_eq_true rfl, Nat.le_of_ble_eq_true rfl⟩ dL_known_1022 (fun r1022 u1022 hu1022 => ?_)
    rw [List.nil_append, List.append_nil]
    obtain ⟨a1022, S1022⟩ := u1022
    obtain ⟨hr, hT1022⟩ := hu1022
    replace hT1022 : Tie K14 S1022 := hT1022
    obtain rfl : r1022 = iZ 0 := hr.trans (congrArg iZ ka_1022)
    show Gz pp l ee ({ frames := 11, cells := 1600, slots := 12000, locals := 206 } : Room) ss mm args below meth cd 2 1389 9277 Q (Zw D vwCl (va_A wst sz) ss (wC y o4 a1022 S1022 tb4 K14)) 1025 [(0, .ref (o4 0))] [.int (iZ 0)]
    refine z_if_eq (tgt := 1030) mx mb (by decide) dL_known_1025 (by decide) (fun _ => ?_) (fun c1025 => absurd c1025 (by decide))
    refine z_new (ci := 4) (C := RX4) (T := TX4) (N := 5) mx mb mts (in_L_known_X4) tyX4_ok mo (mts _ (List.mem_of_getElem? (i := 1) rfl)) (mts _ (List.mem_of_getElem? (i := 2) rfl)) (mts _ (List.mem_of_getElem? (i := 3) rfl)) hK hA rfl [.null, .null, .null, .null, .int (iZ 0)] (by decide) (Nat.le_of_ble_eq_true rfl) (Nat.le_of_ble_eq_true rfl) dL_known_1030 (fun q1030 => ?_)
    show Gz pp l ee ({ frames := 11, cells := 1600, slots := 12000, locals := 206 } : Room) ss mm args below meth cd 2 1390 9282 Q (Zw D vwCl (va_A wst sz) ss ((wC y o4 a1022 S1022 tb4 K14) ++ ([(q1030, .inr (4, [.null, .null, .null, .null, .int (iZ 0)]))] : va_W))) 1033 [(0, .ref (o4 0))] [.ref q1030]
    refine z_dup mx mb dL_known_1033 rfl ?_
    refine z_callCE (wa := (wC y o4 a1022 S1022 tb4 K14)) (wc := ([(q1030, .inr (4, [.null, .null, .null, .null, .int (iZ 0)]))] : va_W)) (wb := []) (As := []) (rest := [.ref q1030]) ⟨mx, mb, mml, mo, mts⟩ hK hA hE (fun sz => c_X4_init l D sz y q1030) (cwI 0 mts gL_known_X4_init rfl rfl rfl (mts _ (List.mem_of_getElem? (i := 3) rfl)) (mts _ (List.mem_of_getElem? (i := 4) rfl)) (mts _ (List.mem_of_getElem? (i := 5) rfl)) rfl (by decide +kernel) ⟨Nat.le_of_ble_eq_true rfl, Nat.le_of_ble_eq_true rfl⟩) (List.append_nil _).symm rfl rfl (Nat.le_of_ble_eq_true rfl) ⟨Nat.le_of_ble_eq_true rfl, Nat.le_of_ble_eq_true rfl⟩ dL_known_1034 (fun u1034 hu1034 => ?_)
    rw [List.append_nil]
    obtain ⟨o1034, a1034, S1034, tb1034⟩ := u1034
    obtain ⟨h01034, hR1034⟩ := hu1034
    replace h01034 : o1034 0 = q1030 := h01034
    subst h01034
    have hT1034 : Tie new0 S1034 := tie_new hR1034
    show Gz pp l ee ({ frames := 11, cells := 1600, slots := 12000, locals := 206 } : Room) ss mm args below meth cd 2 1485 10796 Q (Zw D vwCl (va_A wst sz) ss ((wC y o4 a1022 S1022 tb4 K14) ++ wC y o1034 a1034 S1034 tb1034 new0)) 1037 [(0, .ref (o4 0))] [.ref (o1034 0)]
    replace hT1034 : Tie K0 S1034 := kt_K0 hT1034
    show Gz pp l ee ({ frames := 11, cells := 1600, slots := 12000, locals := 206 } : Room) ss mm args below meth cd 2 1485 10796 Q (Zw D vwCl (va_A wst sz) ss ((wC y o4 a1022 S1022 tb4 K14) ++ wC y o1034 a1034 S1034 tb1034 K0)) 1037 [(0, .ref (o4 0))] [.ref (o1034 0)]
    refine z_astore_n mx mb dL_known_1037 rfl (by decide) [(1, .ref (o1034 0)), (0, .ref (o4 0))] rfl ?_
    refine z_aload_n mx mb dL_known_1038 rfl 0 rfl ?_
    refine z_iconst mx mb dL_known_1039 ?_
    refine z_bipush mx mb dL_known_1040 (by decide +kernel) ?_
    refine z_callSI (wa := (wC y o4 a1022 S1022 tb4 K14)) (wc := (wC y o1034 a1034 S1034 tb1034 K0)) (wb := []) (As := [.ref (o1034 0), .int (iZ 1), .int (iZ 50)]) (rest := []) ⟨mx, mb, mml, mo, mts⟩ hK hA hE (fun sz => c_L_setting l hl0 D sz y o1034 a1034 S1034 tb1034 K0 1 50 (by decide) (by decide) hT1034) (vx_cwSW 3 mts gL_known_L_setting rfl rfl rfl (by decide +kernel) ⟨Nat.le_of_ble_eq_true rfl, Nat.le_of_ble_eq_true rfl⟩) (List.append_nil _).symm rfl rfl (Nat.le_of_ble_eq_true rfl) ⟨Nat.le_of_ble_eq_true rfl, Nat.le_of_ble_eq_true rfl⟩ dL_known_1042 (fun r1042 u1042 hu1042 => ?_)
    rw [List.append_nil]
    obtain ⟨a1042, S1042⟩ := u1042
    obtain ⟨hr, hT1042⟩ := hu1042
    replace hT1042 : Tie (setS K0 1 50) S1042 := hT1042
    obtain rfl : r1042 = iZ 5 := hr.trans (congrArg iZ kv_Q1)
    show Gz pp l ee ({ frames := 11, cells := 1600, slots := 12000, locals := 206 } : Room) ss mm args below meth cd 2 1486 10802 Q (Zw D vwCl (va_A wst sz) ss ((wC y o4 a1022 S1022 tb4 K14) ++ wC y o1034 a1042 S1042 tb1034 (setS K0 1 50))) 1045 [(1, .ref (o1034 0)), (0, .ref (o4 0))] [.int (iZ 5)]
    replace hT1042 : Tie Q1 S1042 := kt_Q1 hT1042
    rw [show wC y o1034 a1042 S1042 tb1034 (setS K0 1 50) = wC y o1034 a1042 S1042 tb1034 Q1 from (wC_nxt ..).symm]
    refine z_iconst mx mb dL_known_1045 ?_
    refine z_icmp_ne (tgt := 1163) mx mb (by decide) (by decide) dL_known_1046 (by decide) (fun c1046 => absurd c1046 (by decide)) (fun _ => ?_)
    refine z_aload_n mx mb dL_known_1049 rfl 0 rfl ?_
    refine z_iconst mx mb dL_known_1050 ?_
    refine z_callSI (wa := (wC y o4 a1022 S1022 tb4 K14)) (wc := (wC y o1034 a1042 S1042 tb1034 Q1)) (wb := []) (As := [.ref (o1034 0), .int (iZ 0)]) (rest := []) ⟨mx, mb, mml, mo, mts⟩ hK hA hE (fun sz => c_L_adding l hl0 D sz y o1034 a1042 S1042 tb1034 Q1 0 (by decide) hT1042) (vx_cwSW 2 mts gL_known_L_adding rfl rfl rfl (by decide +kernel) ⟨Nat.le_of_ble_eq_true rfl, Nat.le_of_ble_eq_true rfl⟩) (List.append_nil _).symm rfl rfl (Nat.le_of_ble_eq_true rfl) ⟨Nat.le_of_ble_eq_true rfl, Nat.le_of_ble_eq_true rfl⟩ dL_known_1051 (fun r1051 u1051 hu1051 => ?_)
    rw [List.append_nil]
    obtain ⟨a1051, S1051⟩ := u1051
    obtain ⟨hr, hT1051⟩ := hu1051
    replace hT1051 : Tie (addS Q1 0) S1051 := hT1051
    obtain rfl : r1051 = iZ 0 := hr.trans (congrArg iZ kv_Q2)
    show Gz pp l ee ({ frames := 11, cells := 1600, slots := 12000, locals := 206 } : Room) ss mm args below meth cd 2 1487 10808 Q (Zw D vwCl (va_A wst sz) ss ((wC y o4 a1022 S1022 tb4 K14) ++ wC y o1034 a1051 S1051 tb1034 (addS Q1 0))) 1054 [(1, .ref (o1034 0)), (0, .ref (o4 0))] [.int (iZ 0)]
    replace hT1051 : Tie Q2 S1051 := kt_Q2 hT1051
    rw [show wC y o1034 a1051 S1051 tb1034 (addS Q1 0) = wC y o1034 a1051 S1051 tb1034 Q2 from (wC_nxt ..).symm]
    refine z_if_ne (tgt := 1163) mx mb (by decide) dL_known_1054 (by decide) (fun c1054 => absurd c1054 (by decide)) (fun _ => ?_)
    refine z_aload_n mx mb dL_known_1057 rfl 0 rfl ?_
    refine z_iconst mx mb dL_known_1058 ?_
    refine z_callSI (wa := (wC y o4 a1022 S1022 tb4 K14)) (wc := (wC y o1034 a1051 S1051 tb1034 Q2)) (wb := []) (As := [.ref (o1034 0), .int (iZ 3)]) (rest := []) ⟨mx, mb, mml, mo, mts⟩ hK hA hE (fun sz => c_L_adding l hl0 D sz y o1034 a1051 S1051 tb1034 Q2 3 (by decide) hT1051) (vx_cwSW 2 mts gL_known_L_adding rfl rfl rfl (by decide +kernel) ⟨Nat.le_of_ble_eq_true rfl, Nat.le_of_ble_eq_true rfl⟩) (List.append_nil _).symm rfl rfl (Nat.le_of_ble_eq_true rfl) ⟨Nat.le_of_ble_eq_true rfl, Nat.le_of_ble_eq_true rfl⟩ dL_known_1059 (fun r1059 u1059 hu1059 => ?_)
    rw [List.append_nil]
    obtain ⟨a1059, S1059⟩ := u1059
    obtain ⟨hr, hT1059⟩ := hu1059
    replace hT1059 : Tie (addS Q2 3) S1059 := hT1059
    obtain rfl : r1059 = iZ 1 := hr.trans (congrArg iZ kv_Q3)
    show Gz pp l ee ({ frames := 11, cells := 1600, slots := 12000, locals := 206 } : Room) ss mm args below meth cd 2 1488 10814 Q (Zw D vwCl (va_A wst sz) ss ((wC y o4 a1022 S1022 tb4 K14) ++ wC y o1034 a1059 S1059 tb1034 (addS Q2 3))) 1062 [(1, .ref (o1034 0)), (0, .ref (o4 0))] [.int (iZ 1)]
    replace hT1059 : Tie Q3 S1059 := kt_Q3 hT1059
    rw [show wC y o1034 a1059 S1059 tb1034 (addS Q2 3) = wC y o1034 a1059 S1059 tb1034 Q3 from (wC_nxt ..).symm]
    refine z_iconst mx mb dL_known_1062 ?_
    refine z_icmp_ne (tgt := 1163) mx mb (by decide) (by decide) dL_known_1063 (by decide) (fun c1063 => absurd c1063 (by decide)) (fun _ => ?_)
    refine z_aload_n mx mb dL_known_1066 rfl 0 rfl ?_
    refine z_iconst mx mb dL_known_1067 ?_
    refine z_callSI (wa := (wC y o4 a1022 S1022 tb4 K14)) (wc := (wC y o1034 a1059 S1059 tb1034 Q3)) (wb := []) (As := [.ref (o1034 0), .int (iZ 1)]) (rest := []) ⟨mx, mb, mml, mo, mts⟩ hK hA hE (fun sz => c_L_adding l hl0 D sz y o1034 a1059 S1059 tb1034 Q3 1 (by decide) hT1059) (vx_cwSW 2 mts gL_known_L_adding rfl rfl rfl (by decide +kernel) ⟨Nat.le_of_ble_eq_true rfl, Nat.le_of_ble_eq_true rfl⟩) (List.append_nil _).symm rfl rfl (Nat.le_of_ble_eq_true rfl) ⟨Nat.le_of_ble_eq_true rfl, Nat.le_of_ble_eq_true rfl⟩ dL_known_1068 (fun r1068 u1068 hu1068 => ?_)
    rw [List.append_nil]
    obtain ⟨a1068, S1068⟩ := u1068
    obtain ⟨hr, hT1068⟩ := hu1068
    replace hT1068 : Tie (addS Q3 1) S1068 := hT1068
    obtain rfl : r1068 = iZ 2 := hr.trans (congrArg iZ kv_Q4)
    show Gz pp l ee ({ frames := 11, cells := 1600, slots := 12000, locals := 206 } : Room) ss mm args below meth cd 2 1489 10820 Q (Zw D vwCl (va_A wst sz) ss ((wC y o4 a1022 S1022 tb4 K14) ++ wC y o1034 a1068 S1068 tb1034 (addS Q3 1))) 1071 [(1, .ref (o1034 0)), (0, .ref (o4 0))] [.int (iZ 2)]
    replace hT1068 : Tie Q4 S1068 := kt_Q4 hT1068
    rw [show wC y o1034 a1068 S1068 tb1034 (addS Q3 1) = wC y o1034 a1068 S1068 tb1034 Q4 from (wC_nxt ..).symm]
    refine z_iconst mx mb dL_known_1071 ?_
    refine z_icmp_ne (tgt := 1163) mx mb (by decide) (by decide) dL_known_1072 (by decide) (fun c1072 => absurd c1072 (by decide)) (fun _ => ?_)
    refine z_aload_n mx mb dL_known_1075 rfl 0 rfl ?_
    refine z_bipush mx mb dL_known_1076 (by decide +kernel) ?_
    refine z_callSI (wa := (wC y o4 a1022 S1022 tb4 K14)) (wc := (wC y o1034 a1068 S1068 tb1034 Q4)) (wb := []) (As := [.ref (o1034 0), .int (iZ 40)]) (rest := []) ⟨mx, mb, mml, mo, mts⟩ hK hA hE (fun sz => c_L_passing l hl0 D sz y o1034 a1068 S1068 tb1034 Q4 40 (by decide) hT1068) (vx_cwSW 2 mts gL_known_L_passing rfl rfl rfl (by decide +kernel) ⟨Nat.le_of_ble_eq_true rfl, Nat.le_of_ble_eq_true rfl⟩) (List.append_nil _).symm rfl rfl (Nat.le_of_ble_eq_true rfl) ⟨Nat.le_of_ble_eq_true rfl, Nat.le_of_ble_eq_true rfl⟩ dL_known_1078 (fun r1078 u1078 hu1078 => ?_)
    rw [List.append_nil]
    obtain ⟨a1078, S1078⟩ := u1078
    obtain ⟨hr, hT1078⟩ := hu1078
    replace hT1078 : Tie (pasS Q4 40) S1078 := hT1078
    obtain rfl : r1078 = iZ 0 := hr.trans (congrArg iZ (kp_Q5 hT1068.1.2).2)
    show Gz pp l ee ({ frames := 11, cells := 1600, slots := 12000, locals := 206 } : Room) ss mm args below meth cd 2 1490 10826 Q (Zw D vwCl (va_A wst sz) ss ((wC y o4 a1022 S1022 tb4 K14) ++ wC y o1034 a1078 S1078 tb1034 (pasS Q4 40))) 1081 [(1, .ref (o1034 0)), (0, .ref (o4 0))] [.int (iZ 0)]
    replace hT1078 : Tie Q5 S1078 := kt_Q5 hT1068 hT1078
    rw [show wC y o1034 a1078 S1078 tb1034 (pasS Q4 40) = wC y o1034 a1078 S1078 tb1034 Q5 from (wC_nxt ..).symm]
    refine z_if_ne (tgt := 1163) mx mb (by decide) dL_known_1081 (by decide) (fun c1081 => absurd c1081 (by decide)) (fun _ => ?_)
    refine z_aload_n mx mb dL_known_1084 rfl 0 rfl ?_
    refine z_iconst mx mb dL_known_1085 ?_
    refine z_iconst mx mb dL_known_1086 ?_
    refine z_callSI (wa := (wC y o4 a1022 S1022 tb4 K14)) (wc := (wC y o1034 a1078 S1078 tb1034 Q5)) (wb := []) (As := [.ref (o1034 0), .int (iZ 2), .int (iZ 4)]) (rest := []) ⟨mx, mb, mml, mo, mts⟩ hK hA hE (fun sz => c_L_blockBy l hl0 D sz y o1034 a1078 S1078 tb1034 Q5 2 4 (by decide) (by decide) hT1078) (vx_cwSW 3 mts gL_known_L_blockBy rfl rfl rfl (by decide +kernel) ⟨Nat.le_of_ble_eq_true rfl, Nat.le_of_ble_eq_true rfl⟩) (List.append_nil _).symm rfl rfl (Nat.le_of_ble_eq_true rfl) ⟨Nat.le_of_ble_eq_true rfl, Nat.le_of_ble_eq_true rfl⟩ dL_known_1087 (fun r1087 u1087 hu1087 => ?_)
    rw [List.append_nil]
    obtain ⟨a1087, S1087⟩ := u1087
    obtain ⟨hr, hT1087⟩ := hu1087
    replace hT1087 : Tie Q5 S1087 := hT1087
    obtain rfl : r1087 = iZ 0 := hr.trans (congrArg iZ ka_1087)
    show Gz pp l ee ({ frames := 11, cells := 1600, slots := 12000, locals := 206 } : Room) ss mm args below meth cd 2 1491 10832 Q (Zw D vwCl (va_A wst sz) ss ((wC y o4 a1022 S1022 tb4 K14) ++ wC y o1034 a1087 S1087 tb1034 Q5)) 1090 [(1, .ref (o1034 0)), (0, .ref (o4 0))] [.int (iZ 0)]
    refine z_if_ne (tgt := 1163) mx mb (by decide) dL_known_1090 (by decide) (fun c1090 => absurd c1090 (by decide)) (fun _ => ?_)
    refine z_aload_n mx mb dL_known_1093 rfl 0 rfl ?_
    refine z_iconst mx mb dL_known_1094 ?_
    refine z_callSI (wa := (wC y o4 a1022 S1022 tb4 K14)) (wc := (wC y o1034 a1087 S1087 tb1034 Q5)) (wb := []) (As := [.ref (o1034 0), .int (iZ 1)]) (rest := []) ⟨mx, mb, mml, mo, mts⟩ hK hA hE (fun sz => c_L_passing l hl0 D sz y o1034 a1087 S1087 tb1034 Q5 1 (by decide) hT1087) (vx_cwSW 2 mts gL_known_L_passing rfl rfl rfl (by decide +kernel) ⟨Nat.le_of_ble_eq_true rfl, Nat.le_of_ble_eq_true rfl⟩) (List.append_nil _).symm rfl rfl (Nat.le_of_ble_eq_true rfl) ⟨Nat.le_of_ble_eq_true rfl, Nat.le_of_ble_eq_true rfl⟩ dL_known_1095 (fun r1095 u1095 hu1095 => ?_)
    rw [List.append_nil]
    obtain ⟨a1095, S1095⟩ := u1095
    obtain ⟨hr, hT1095⟩ := hu1095
    replace hT1095 : Tie (pasS Q5 1) S1095 := hT1095
    obtain rfl : r1095 = iZ 0 := hr.trans (congrArg iZ (kp_Q6 hT1087.1.2).2)
    show Gz pp l ee ({ frames := 11, cells := 1600, slots := 12000, locals := 206 } : Room) ss mm args below meth cd 2 1492 10838 Q (Zw D vwCl (va_A wst sz) ss ((wC y o4 a1022 S1022 tb4 K14) ++ wC y o1034 a1095 S1095 tb1034 (pasS Q5 1))) 1098 [(1, .ref (o1034 0)), (0, .ref (o4 0))] [.int (iZ 0)]
    replace hT1095 : Tie Q6 S1095 := kt_Q6 hT1087 hT1095
    rw [show wC y o1034 a1095 S1095 tb1034 (pasS Q5 1) = wC y o1034 a1095 S1095 tb1034 Q6 from (wC_nxt ..).symm]
    refine z_if_ne (tgt := 1163) mx mb (by decide) dL_known_1098 (by decide) (fun c1098 => absurd c1098 (by decide)) (fun _ => ?_)
    refine z_aload_n mx mb dL_known_1101 rfl 0 rfl ?_
    refine z_iconst mx mb dL_known_1102 ?_
    refine z_iconst mx mb dL_known_1103 ?_
    refine z_callSI (wa := (wC y o4 a1022 S1022 tb4 K14)) (wc := (wC y o1034 a1095 S1095 tb1034 Q6)) (wb := []) (As := [.ref (o1034 0), .int (iZ 2), .int (iZ 4)]) (rest := []) ⟨mx, mb, mml, mo, mts⟩ hK hA hE (fun sz => c_L_blockBy l hl0 D sz y o1034 a1095 S1095 tb1034 Q6 2 4 (by decide) (by decide) hT1095) (vx_cwSW 3 mts gL_known_L_blockBy rfl rfl rfl (by decide +kernel) ⟨Nat.le_of_ble_eq_true rfl, Nat.le_of_ble_eq_true rfl⟩) (List.append_nil _).symm rfl rfl (Nat.le_of_ble_eq_true rfl) ⟨Nat.le_of_ble_eq_true rfl, Nat.le_of_ble_eq_true rfl⟩ dL_known_1104 (fun r1104 u1104 hu1104 => ?_)
    rw [List.append_nil]
    obtain ⟨a1104, S1104⟩ := u1104
    obtain ⟨hr, hT1104⟩ := hu1104
    replace hT1104 : Tie Q6 S1104 := hT1104
    obtain rfl : r1104 = iZ 1 := hr.trans (congrArg iZ ka_1104)
    show Gz pp l ee ({ frames := 11, cells := 1600, slots := 12000, locals := 206 } : Room) ss mm args below meth cd 2 1493 10844 Q (Zw D vwCl (va_A wst sz) ss ((wC y o4 a1022 S1022 tb4 K14) ++ wC y o1034 a1104 S1104 tb1034 Q6)) 1107 [(1, .ref (o1034 0)), (0, .ref (o4 0))] [.int (iZ 1)]
    refine z_iconst mx mb dL_known_1107 ?_
    refine z_icmp_ne (tgt := 1163) mx mb (by decide) (by decide) dL_known_1108 (by decide) (fun c1108 => absurd c1108 (by decide)) (fun _ => ?_)
    refine z_aload_n mx mb dL_known_1111 rfl 0 rfl ?_
    refine z_iconst mx mb dL_known_1112 ?_
    refine z_callSI (wa := (wC y o4 a1022 S1022 tb4 K14)) (wc := (wC y o1034 a1104 S1104 tb1034 Q6)) (wb := []) (As := [.ref (o1034 0), .int (iZ 2)]) (rest := []) ⟨mx, mb, mml, mo, mts⟩ hK hA hE (fun sz => c_L_reason l hl0 D sz y o1034 a1104 S1104 tb1034 Q6 2 (by decide) hT1104) (vx_cwSW 2 mts gL_known_L_reason rfl rfl rfl (by decide +kernel) ⟨Nat.le_of_ble_eq_true rfl, Nat.le_of_ble_eq_true rfl⟩) (List.append_nil _).symm rfl rfl (Nat.le_of_ble_eq_true rfl) ⟨Nat.le_of_ble_eq_true rfl, Nat.le_of_ble_eq_true rfl⟩ dL_known_1113 (fun r1113 u1113 hu1113 => ?_)
    rw [List.append_nil]
    obtain ⟨a1113, S1113⟩ := u1113
    obtain ⟨hr, hT1113⟩ := hu1113
    replace hT1113 : Tie Q6 S1113 := hT1113
    obtain rfl : r1113 = iZ 2 := hr.trans (congrArg iZ ka_1113)
    show Gz pp l ee ({ frames := 11, cells := 1600, slots := 12000, locals := 206 } : Room) ss mm args below meth cd 2 1494 10850 Q (Zw D vwCl (va_A wst sz) ss ((wC y o4 a1022 S1022 tb4 K14) ++ wC y o1034 a1113 S1113 tb1034 Q6)) 1116 [(1, .ref (o1034 0)), (0, .ref (o4 0))] [.int (iZ 2)]
    refine z_iconst mx mb dL_known_1116 ?_
    refine z_icmp_ne (tgt := 1163) mx mb (by decide) (by decide) dL_known_1117 (by decide) (fun c1117 => absurd c1117 (by decide)) (fun _ => ?_)
    refine z_aload_n mx mb dL_known_1120 rfl 0 rfl ?_
    refine z_iconst mx mb dL_known_1121 ?_
    refine z_callSI (wa := (wC y o4 a1022 S1022 tb4 K14)) (wc := (wC y o1034 a1113 S1113 tb1034 Q6)) (wb := []) (As := [.ref (o1034 0), .int (iZ 1)]) (rest := []) ⟨mx, mb, mml, mo, mts⟩ hK hA hE (fun sz => c_L_reason l hl0 D sz y o1034 a1113 S1113 tb1034 Q6 1 (by decide) hT1113) (vx_cwSW 2 mts gL_known_L_reason rfl rfl rfl (by decide +kernel) ⟨Nat.le_of_ble_eq_true rfl, Nat.le_of_ble_eq_true rfl⟩) (List.append_nil _).symm rfl rfl (Nat.le_of_ble_eq_true rfl) ⟨Nat.le_of_ble_eq_true rfl, Nat.le_of_ble_eq_true rfl⟩ dL_known_1122 (fun r1122 u1122 hu1122 => ?_)
    rw [List.append_nil]
    obtain ⟨a1122, S1122⟩ := u1122
    obtain ⟨hr, hT1122⟩ := hu1122
    replace hT1122 : Tie Q6 S1122 := hT1122
    obtain rfl : r1122 = iZ 2 := hr.trans (congrArg iZ ka_1122)
    show Gz pp l ee ({ frames := 11, cells := 1600, slots := 12000, locals := 206 } : Room) ss mm args below meth cd 2 1495 10856 Q (Zw D vwCl (va_A wst sz) ss ((wC y o4 a1022 S1022 tb4 K14) ++ wC y o1034 a1122 S1122 tb1034 Q6)) 1125 [(1, .ref (o1034 0)), (0, .ref (o4 0))] [.int (iZ 2)]
    refine z_iconst mx mb dL_known_1125 ?_
    refine z_icmp_ne (tgt := 1163) mx mb (by decide) (by decide) dL_known_1126 (by decide) (fun c1126 => absurd c1126 (by decide)) (fun _ => ?_)
    refine z_aload_n mx mb dL_known_1129 rfl 0 rfl ?_
    refine z_iconst mx mb dL_known_1130 ?_
    refine z_callSI (wa := (wC y o4 a1022 S1022 tb4 K14)) (wc := (wC y o1034 a1122 S1122 tb1034 Q6)) (wb := []) (As := [.ref (o1034 0), .int (iZ 0)]) (rest := []) ⟨mx, mb, mml, mo, mts⟩ hK hA hE (fun sz => c_L_reason l hl0 D sz y o1034 a1122 S1122 tb1034 Q6 0 (by decide) hT1122) (vx_cwSW 2 mts gL_known_L_reason rfl rfl rfl (by decide +kernel) ⟨Nat.le_of_ble_eq_true rfl, Nat.le_of_ble_eq_true rfl⟩) (List.append_nil _).symm rfl rfl (Nat.le_of_ble_eq_true rfl) ⟨Nat.le_of_ble_eq_true rfl, Nat.le_of_ble_eq_true rfl⟩ dL_known_1131 (fun r1131 u1131 hu1131 => ?_)
    rw [List.append_nil]
    obtain ⟨a1131, S1131⟩ := u1131
    obtain ⟨hr, hT1131⟩ := hu1131
    replace hT1131 : Tie Q6 S1131 := hT1131
    obtain rfl : r1131 = iZ 3 := hr.trans (congrArg iZ ka_1131)
    show Gz pp l ee ({ frames := 11, cells := 1600, slots := 12000, locals := 206 } : Room) ss mm args below meth cd 2 1496 10862 Q (Zw D vwCl (va_A wst sz) ss ((wC y o4 a1022 S1022 tb4 K14) ++ wC y o1034 a1131 S1131 tb1034 Q6)) 1134 [(1, .ref (o1034 0)), (0, .ref (o4 0))] [.int (iZ 3)]
    refine z_iconst mx mb dL_known_1134 ?_
    refine z_icmp_ne (tgt := 1163) mx mb (by decide) (by decide) dL_known_1135 (by decide) (fun c1135 => absurd c1135 (by decide)) (fun _ => ?_)
    refine z_aload_n mx mb dL_known_1138 rfl 0 rfl ?_
    refine z_iconst mx mb dL_known_1139 ?_
    refine z_bipush mx mb dL_known_1140 (by decide +kernel) ?_
    refine z_callSI (wa := (wC y o4 a1022 S1022 tb4 K14)) (wc := (wC y o1034 a1131 S1131 tb1034 Q6)) (wb := []) (As := [.ref (o1034 0), .int (iZ 0), .int (iZ 6)]) (rest := []) ⟨mx, mb, mml, mo, mts⟩ hK hA hE (fun sz => c_L_trainBy l hl0 D sz y o1034 a1131 S1131 tb1034 Q6 0 6 (by decide) (by decide) hT1131) (vx_cwSW 3 mts gL_known_L_trainBy rfl rfl rfl (by decide +kernel) ⟨Nat.le_of_ble_eq_true rfl, Nat.le_of_ble_eq_true rfl⟩) (List.append_nil _).symm rfl rfl (Nat.le_of_ble_eq_true rfl) ⟨Nat.le_of_ble_eq_true rfl, Nat.le_of_ble_eq_true rfl⟩ dL_known_1142 (fun r1142 u1142 hu1142 => ?_)
    rw [List.append_nil]
    obtain ⟨a1142, S1142⟩ := u1142
    obtain ⟨hr, hT1142⟩ := hu1142
    replace hT1142 : Tie Q6 S1142 := hT1142
    obtain rfl : r1142 = iZ 41 := hr.trans (congrArg iZ ka_1142)
    show Gz pp l ee ({ frames := 11, cells := 1600, slots := 12000, locals := 206 } : Room) ss mm args below meth cd 2 1497 10868 Q (Zw D vwCl (va_A wst sz) ss ((wC y o4 a1022 S1022 tb4 K14) ++ wC y o1034 a1142 S1142 tb1034 Q6)) 1145 [(1, .ref (o1034 0)), (0, .ref (o4 0))] [.int (iZ 41)]
    refine z_bipush mx mb dL_known_1145 (by decide +kernel) ?_
    refine z_icmp_ne (tgt := 1163) mx mb (by decide) (by decide) dL_known_1147 (by decide) (fun c1147 => absurd c1147 (by decide)) (fun _ => ?_)
    refine z_aload_n mx mb dL_known_1150 rfl 1 rfl ?_
    refine z_callD (wa := []) (wc := (wC y o4 a1022 S1022 tb4 K14)) (wb := (wC y o1034 a1142 S1142 tb1034 Q6)) (As := []) (rest := []) ⟨mx, mb, mml, mo, mts⟩ hK hA (fun sz => c_X4_meanWarmth l D sz y o4 a1022 S1022 tb4 K14.2.2.2.1 K14.2.2.2.2 K14.2.2.1 K14.1 hT1022.1.1 hT1022.1.2.1 hT1022.1.2.2.1) (cwV 0 mts gL_known_X4_meanWarmth rfl rfl rfl (by decide +kernel) ⟨Nat.le_of_ble_eq_true rfl, Nat.le_of_ble_eq_true rfl⟩) rfl 0 rfl rfl rfl rfl rfl (Nat.le_of_ble_eq_true rfl) ⟨Nat.le_of_ble_eq_true rfl, Nat.le_of_ble_eq_true rfl⟩ dL_known_1151 (fun r1151 u1151 hu1151 => ?_)
    rw [List.nil_append]
    obtain rfl : r1151 = FP.dconst0 := hu1151.trans kw_14
    show Gz pp l ee ({ frames := 11, cells := 1600, slots := 12000, locals := 206 } : Room) ss mm args below meth cd 2 1497 10868 Q (Zw D vwCl (va_A wst sz) ss ((wC y o4 a1022 S1022 tb4 K14) ++ wC y o1034 a1142 S1142 tb1034 Q6)) 1154 [(1, .ref (o1034 0)), (0, .ref (o4 0))] [.double FP.dconst0]
    refine z_dconst0 mx mb dL_known_1154 ?_
    refine z_dcmp (v := iZ 0) mx mb (by decide +kernel) dL_known_1155 ?_
    refine z_if_ne (tgt := 1163) mx mb (by decide) dL_known_1156 (by decide) (fun c1156 => absurd c1156 (by decide)) (fun _ => ?_)
    refine z_iconst mx mb dL_known_1159 ?_
    refine z_goto (tgt := 1164) mx mb dL_known_1160 (by decide) ?_
    rw [← List.append_nil ((wC y o4 a1022 S1022 tb4 K14) ++ wC y o1034 a1142 S1142 tb1034 Q6)]
    refine z_dropL ?_
    refine z_widen (k1 := 1600) (n1 := 12000) (Nat.le_of_ble_eq_true rfl) (Nat.le_of_ble_eq_true rfl) ?_
    rw [hQ]
    exact z_retZ mx mb mr mlk hK (by decide) () (by exact rfl) rfl dL_known_1164
  subst hQ
  subst hw0
  exact hstart
