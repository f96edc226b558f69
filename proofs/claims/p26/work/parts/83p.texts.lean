set_option maxRecDepth 100000 in
theorem in_L_texts_X4 : ∀ w ∈ wsX40, w ∈ wsL_texts := by decide +kernel
set_option maxRecDepth 100000 in
set_option maxHeartbeats 8000000 in
theorem c_L_texts (l : Launch) (hl0 : l.stackTraces = false) (D : va_G) (sz : Nat) (y : Nat → ClassId)   : Met l yL_texts wsL_texts ({ frames := 10, cells := 5000, slots := 50000, locals := 186 } : Room) (zPe D vwCl (zT y) ([] : va_W) sz []) (va_Qi (fun (r : Int32) (_ : Unit) => r = iZ 1) (zB D vwCl (zT y) ([] : va_W) sz (fun _ : Unit => ([] : va_W))) (va_A ([] : va_W) sz)) 5000 50000 (va_A ([] : va_W) sz) := by
  refine z_headE (cc := cL_texts) (maxL := 2) (ret := (some .boolean)) [] rfl (Nat.le_of_ble_eq_true rfl) (by decide +kernel) rfl ?_
  intro pp ee ss mm below meth cd mx mb mr mml mo mts mlk hK hname hsz hA hE
  generalize ([] : List Value).toArray = args at mts ⊢
  obtain ⟨wst, hw0⟩ : ∃ wst, wst = ([] : va_W) := ⟨_, rfl⟩
  replace hE : zE (va_A wst sz) ss ss.heap := by rw [hw0]; exact hE
  replace hA : ∀ q, ss.heap.size ≤ q → va_A wst sz q := by rw [hw0]; exact hA
  obtain ⟨Q, hQ⟩ : ∃ Q, Q = MQ below (va_Qi (fun (r : Int32) (_ : Unit) => r = iZ 1) (zB D vwCl (zT y) wst sz (fun _ : Unit => ([] : va_W))) (va_A wst sz)) args ss 5000 50000 (va_A wst sz) := ⟨_, rfl⟩
  have hstart : Gz pp l ee ({ frames := 10, cells := 5000, slots := 50000, locals := 186 } : Room) ss mm args below meth cd 2 0 0 Q (Zw D vwCl (va_A wst sz) ss ([] : va_W)) 0 [] [] := by
    refine z_lconst0 mx mb dL_texts_0 ?_
    refine z_lconst0 mx mb dL_texts_1 ?_
    refine z_lconst0 mx mb dL_texts_2 ?_
    refine z_callSE (wa := []) (wc := []) (wb := []) (As := [.long (lZ 0), .long (lZ 0), .long (lZ 0)]) (rest := []) ⟨mx, mb, mml, mo, mts⟩ hK hA hE (fun sz => c_L_told l hl0 D sz y 0 0 0 wd_0 wd_0 wd_0) (cwS 3 mts gL_texts_L_told rfl rfl rfl (by decide +kernel) ⟨Nat.le_of_ble_eq_true rfl, Nat.le_of_ble_eq_true rfl⟩) rfl rfl rfl (Nat.le_of_ble_eq_true rfl) ⟨Nat.le_of_ble_eq_true rfl, Nat.le_of_ble_eq_true rfl⟩ dL_texts_3 (fun r3 u3 hu3 => ?_)
    rw [List.nil_append, List.append_nil]
    have hr := hu3
    obtain rfl : r3 = iZ (-10) := hr.trans (congrArg iZ tld_3)
    show Gz pp l ee ({ frames := 10, cells := 5000, slots := 50000, locals := 186 } : Room) ss mm args below meth cd 2 200 2000 Q (Zw D vwCl (va_A wst sz) ss ([] : va_W)) 6 [] [.int (iZ (-10))]
    refine z_bipush mx mb dL_texts_6 (by decide +kernel) ?_
    refine z_icmp_ne (tgt := 49) mx mb (by decide) (by decide) dL_texts_8 (by decide) (fun c8 => absurd c8 (by decide)) (fun _ => ?_)
    refine z_ldc2 (z := 3486402259811446830) mx mb mo (mts _ (List.mem_of_getElem? (i := 1) rfl)) (by decide +kernel) dL_texts_11 ?_
    refine z_lconst0 mx mb dL_texts_14 ?_
    refine z_lconst0 mx mb dL_texts_15 ?_
    refine z_callSE (wa := []) (wc := []) (wb := []) (As := [.long (lZ 3486402259811446830), .long (lZ 0), .long (lZ 0)]) (rest := []) ⟨mx, mb, mml, mo, mts⟩ hK hA hE (fun sz => c_L_told l hl0 D sz y 3486402259811446830 0 0 wd_3486402259811446830 wd_0 wd_0) (cwS 3 mts gL_texts_L_told rfl rfl rfl (by decide +kernel) ⟨Nat.le_of_ble_eq_true rfl, Nat.le_of_ble_eq_true rfl⟩) rfl rfl rfl (Nat.le_of_ble_eq_true rfl) ⟨Nat.le_of_ble_eq_true rfl, Nat.le_of_ble_eq_true rfl⟩ dL_texts_16 (fun r16 u16 hu16 => ?_)
    rw [List.nil_append, List.append_nil]
    have hr := hu16
    obtain rfl : r16 = iZ 4 := hr.trans (congrArg iZ tld_16)
    show Gz pp l ee ({ frames := 10, cells := 5000, slots := 50000, locals := 186 } : Room) ss mm args below meth cd 2 400 4000 Q (Zw D vwCl (va_A wst sz) ss ([] : va_W)) 19 [] [.int (iZ 4)]
    refine z_iconst mx mb dL_texts_19 ?_
    refine z_icmp_ne (tgt := 49) mx mb (by decide) (by decide) dL_texts_20 (by decide) (fun c20 => absurd c20 (by decide)) (fun _ => ?_)
    refine z_ldc2 (z := 53198276669486) mx mb mo (mts _ (List.mem_of_getElem? (i := 2) rfl)) (by decide +kernel) dL_texts_23 ?_
    refine z_lconst0 mx mb dL_texts_26 ?_
    refine z_lconst0 mx mb dL_texts_27 ?_
    refine z_callSE (wa := []) (wc := []) (wb := []) (As := [.long (lZ 53198276669486), .long (lZ 0), .long (lZ 0)]) (rest := []) ⟨mx, mb, mml, mo, mts⟩ hK hA hE (fun sz => c_L_told l hl0 D sz y 53198276669486 0 0 wd_53198276669486 wd_0 wd_0) (cwS 3 mts gL_texts_L_told rfl rfl rfl (by decide +kernel) ⟨Nat.le_of_ble_eq_true rfl, Nat.le_of_ble_eq_true rfl⟩) rfl rfl rfl (Nat.le_of_ble_eq_true rfl) ⟨Nat.le_of_ble_eq_true rfl, Nat.le_of_ble_eq_true rfl⟩ dL_texts_28 (fun r28 u28 hu28 => ?_)
    rw [List.nil_append, List.append_nil]
    have hr := hu28
    obtain rfl : r28 = iZ (-16) := hr.trans (congrArg iZ tld_28)
    show Gz pp l ee ({ frames := 10, cells := 5000, slots := 50000, locals := 186 } : Room) ss mm args below meth cd 2 600 6000 Q (Zw D vwCl (va_A wst sz) ss ([] : va_W)) 31 [] [.int (iZ (-16))]
    refine z_bipush mx mb dL_texts_31 (by decide +kernel) ?_
    refine z_icmp_ne (tgt := 49) mx mb (by decide) (by decide) dL_texts_33 (by decide) (fun c33 => absurd c33 (by decide)) (fun _ => ?_)
    refine z_ldc2 (z := 3486402036473147438) mx mb mo (mts _ (List.mem_of_getElem? (i := 3) rfl)) (by decide +kernel) dL_texts_36 ?_
    refine z_lconst0 mx mb dL_texts_39 ?_
    refine z_lconst0 mx mb dL_texts_40 ?_
    refine z_callSE (wa := []) (wc := []) (wb := []) (As := [.long (lZ 3486402036473147438), .long (lZ 0), .long (lZ 0)]) (rest := []) ⟨mx, mb, mml, mo, mts⟩ hK hA hE (fun sz => c_L_told l hl0 D sz y 3486402036473147438 0 0 wd_3486402036473147438 wd_0 wd_0) (cwS 3 mts gL_texts_L_told rfl rfl rfl (by decide +kernel) ⟨Nat.le_of_ble_eq_true rfl, Nat.le_of_ble_eq_true rfl⟩) rfl rfl rfl (Nat.le_of_ble_eq_true rfl) ⟨Nat.le_of_ble_eq_true rfl, Nat.le_of_ble_eq_true rfl⟩ dL_texts_41 (fun r41 u41 hu41 => ?_)
    rw [List.nil_append, List.append_nil]
    have hr := hu41
    obtain rfl : r41 = iZ (-18) := hr.trans (congrArg iZ tld_41)
    show Gz pp l ee ({ frames := 10, cells := 5000, slots := 50000, locals := 186 } : Room) ss mm args below meth cd 2 800 8000 Q (Zw D vwCl (va_A wst sz) ss ([] : va_W)) 44 [] [.int (iZ (-18))]
    refine z_bipush mx mb dL_texts_44 (by decide +kernel) ?_
    refine z_icmp_eq (tgt := 51) mx mb (by decide) (by decide) dL_texts_46 (by decide) (fun _ => ?_) (fun c46 => absurd c46 (by decide))
    refine z_ldc2 (z := 13618758827388464) mx mb mo (mts _ (List.mem_of_getElem? (i := 4) rfl)) (by decide +kernel) dL_texts_51 ?_
    refine z_lconst0 mx mb dL_texts_54 ?_
    refine z_lconst0 mx mb dL_texts_55 ?_
    refine z_callSE (wa := []) (wc := []) (wb := []) (As := [.long (lZ 13618758827388464), .long (lZ 0), .long (lZ 0)]) (rest := []) ⟨mx, mb, mml, mo, mts⟩ hK hA hE (fun sz => c_L_told l hl0 D sz y 13618758827388464 0 0 wd_13618758827388464 wd_0 wd_0) (cwS 3 mts gL_texts_L_told rfl rfl rfl (by decide +kernel) ⟨Nat.le_of_ble_eq_true rfl, Nat.le_of_ble_eq_true rfl⟩) rfl rfl rfl (Nat.le_of_ble_eq_true rfl) ⟨Nat.le_of_ble_eq_true rfl, Nat.le_of_ble_eq_true rfl⟩ dL_texts_56 (fun r56 u56 hu56 => ?_)
    rw [List.nil_append, List.append_nil]
    have hr := hu56
    obtain rfl : r56 = iZ (-17) := hr.trans (congrArg iZ tld_56)
    show Gz pp l ee ({ frames := 10, cells := 5000, slots := 50000, locals := 186 } : Room) ss mm args below meth cd 2 1000 10000 Q (Zw D vwCl (va_A wst sz) ss ([] : va_W)) 59 [] [.int (iZ (-17))]
    refine z_bipush mx mb dL_texts_59 (by decide +kernel) ?_
    refine z_icmp_ne (tgt := 103) mx mb (by decide) (by decide) dL_texts_61 (by decide) (fun c61 => absurd c61 (by decide)) (fun _ => ?_)
    refine z_ldc2 (z := 98) mx mb mo (mts _ (List.mem_of_getElem? (i := 5) rfl)) (by decide +kernel) dL_texts_64 ?_
    refine z_lconst0 mx mb dL_texts_67 ?_
    refine z_lconst0 mx mb dL_texts_68 ?_
    refine z_callSE (wa := []) (wc := []) (wb := []) (As := [.long (lZ 98), .long (lZ 0), .long (lZ 0)]) (rest := []) ⟨mx, mb, mml, mo, mts⟩ hK hA hE (fun sz => c_L_told l hl0 D sz y 98 0 0 wd_98 wd_0 wd_0) (cwS 3 mts gL_texts_L_told rfl rfl rfl (by decide +kernel) ⟨Nat.le_of_ble_eq_true rfl, Nat.le_of_ble_eq_true rfl⟩) rfl rfl rfl (Nat.le_of_ble_eq_true rfl) ⟨Nat.le_of_ble_eq_true rfl, Nat.le_of_ble_eq_true rfl⟩ dL_texts_69 (fun r69 u69 hu69 => ?_)
    rw [List.nil_append, List.append_nil]
    have hr := hu69
    obtain rfl : r69 = iZ (-10) := hr.trans (congrArg iZ tld_69)
    show Gz pp l ee ({ frames := 10, cells := 5000, slots := 50000, locals := 186 } : Room) ss mm args below meth cd 2 1200 12000 Q (Zw D vwCl (va_A wst sz) ss ([] : va_W)) 72 [] [.int (iZ (-10))]
    refine z_bipush mx mb dL_texts_72 (by decide +kernel) ?_
    refine z_icmp_ne (tgt := 103) mx mb (by decide) (by decide) dL_texts_74 (by decide) (fun c74 => absurd c74 (by decide)) (fun _ => ?_)
    refine z_ldc2 (z := 12408) mx mb mo (mts _ (List.mem_of_getElem? (i := 6) rfl)) (by decide +kernel) dL_texts_77 ?_
    refine z_lconst0 mx mb dL_texts_80 ?_
    refine z_lconst0 mx mb dL_texts_81 ?_
    refine z_callSE (wa := []) (wc := []) (wb := []) (As := [.long (lZ 12408), .long (lZ 0), .long (lZ 0)]) (rest := []) ⟨mx, mb, mml, mo, mts⟩ hK hA hE (fun sz => c_L_told l hl0 D sz y 12408 0 0 wd_12408 wd_0 wd_0) (cwS 3 mts gL_texts_L_told rfl rfl rfl (by decide +kernel) ⟨Nat.le_of_ble_eq_true rfl, Nat.le_of_ble_eq_true rfl⟩) rfl rfl rfl (Nat.le_of_ble_eq_true rfl) ⟨Nat.le_of_ble_eq_true rfl, Nat.le_of_ble_eq_true rfl⟩ dL_texts_82 (fun r82 u82 hu82 => ?_)
    rw [List.nil_append, List.append_nil]
    have hr := hu82
    obtain rfl : r82 = iZ (-11) := hr.trans (congrArg iZ tld_82)
    show Gz pp l ee ({ frames := 10, cells := 5000, slots := 50000, locals := 186 } : Room) ss mm args below meth cd 2 1400 14000 Q (Zw D vwCl (va_A wst sz) ss ([] : va_W)) 85 [] [.int (iZ (-11))]
    refine z_bipush mx mb dL_texts_85 (by decide +kernel) ?_
    refine z_icmp_ne (tgt := 103) mx mb (by decide) (by decide) dL_texts_87 (by decide) (fun c87 => absurd c87 (by decide)) (fun _ => ?_)
    refine z_ldc2 (z := 12336) mx mb mo (mts _ (List.mem_of_getElem? (i := 7) rfl)) (by decide +kernel) dL_texts_90 ?_
    refine z_lconst0 mx mb dL_texts_93 ?_
    refine z_lconst0 mx mb dL_texts_94 ?_
    refine z_callSE (wa := []) (wc := []) (wb := []) (As := [.long (lZ 12336), .long (lZ 0), .long (lZ 0)]) (rest := []) ⟨mx, mb, mml, mo, mts⟩ hK hA hE (fun sz => c_L_told l hl0 D sz y 12336 0 0 wd_12336 wd_0 wd_0) (cwS 3 mts gL_texts_L_told rfl rfl rfl (by decide +kernel) ⟨Nat.le_of_ble_eq_true rfl, Nat.le_of_ble_eq_true rfl⟩) rfl rfl rfl (Nat.le_of_ble_eq_true rfl) ⟨Nat.le_of_ble_eq_true rfl, Nat.le_of_ble_eq_true rfl⟩ dL_texts_95 (fun r95 u95 hu95 => ?_)
    rw [List.nil_append, List.append_nil]
    have hr := hu95
    obtain rfl : r95 = iZ (-11) := hr.trans (congrArg iZ tld_95)
    show Gz pp l ee ({ frames := 10, cells := 5000, slots := 50000, locals := 186 } : Room) ss mm args below meth cd 2 1600 16000 Q (Zw D vwCl (va_A wst sz) ss ([] : va_W)) 98 [] [.int (iZ (-11))]
    refine z_bipush mx mb dL_texts_98 (by decide +kernel) ?_
    refine z_icmp_eq (tgt := 105) mx mb (by decide) (by decide) dL_texts_100 (by decide) (fun _ => ?_) (fun c100 => absurd c100 (by decide))
    refine z_ldc2 (z := 3486402259811446830) mx mb mo (mts _ (List.mem_of_getElem? (i := 1) rfl)) (by decide +kernel) dL_texts_105 ?_
    refine z_ldc2 (z := 120) mx mb mo (mts _ (List.mem_of_getElem? (i := 8) rfl)) (by decide +kernel) dL_texts_108 ?_
    refine z_lconst0 mx mb dL_texts_111 ?_
    refine z_callSE (wa := []) (wc := []) (wb := []) (As := [.long (lZ 3486402259811446830), .long (lZ 120), .long (lZ 0)]) (rest := []) ⟨mx, mb, mml, mo, mts⟩ hK hA hE (fun sz => c_L_told l hl0 D sz y 3486402259811446830 120 0 wd_3486402259811446830 wd_120 wd_0) (cwS 3 mts gL_texts_L_told rfl rfl rfl (by decide +kernel) ⟨Nat.le_of_ble_eq_true rfl, Nat.le_of_ble_eq_true rfl⟩) rfl rfl rfl (Nat.le_of_ble_eq_true rfl) ⟨Nat.le_of_ble_eq_true rfl, Nat.le_of_ble_eq_true rfl⟩ dL_texts_112 (fun r112 u112 hu112 => ?_)
    rw [List.nil_append, List.append_nil]
    have hr := hu112
    obtain rfl : r112 = iZ (-18) := hr.trans (congrArg iZ tld_112)
    show Gz pp l ee ({ frames := 10, cells := 5000, slots := 50000, locals := 186 } : Room) ss mm args below meth cd 2 1800 18000 Q (Zw D vwCl (va_A wst sz) ss ([] : va_W)) 115 [] [.int (iZ (-18))]
    refine z_bipush mx mb dL_texts_115 (by decide +kernel) ?_
    refine z_icmp_ne (tgt := 160) mx mb (by decide) (by decide) dL_texts_117 (by decide) (fun c117 => absurd c117 (by decide)) (fun _ => ?_)
    refine z_ldc2 (z := 3486402259811446830) mx mb mo (mts _ (List.mem_of_getElem? (i := 1) rfl)) (by decide +kernel) dL_texts_120 ?_
    refine z_ldc2 (z := 32) mx mb mo (mts _ (List.mem_of_getElem? (i := 9) rfl)) (by decide +kernel) dL_texts_123 ?_
    refine z_lconst0 mx mb dL_texts_126 ?_
    refine z_callSE (wa := []) (wc := []) (wb := []) (As := [.long (lZ 3486402259811446830), .long (lZ 32), .long (lZ 0)]) (rest := []) ⟨mx, mb, mml, mo, mts⟩ hK hA hE (fun sz => c_L_told l hl0 D sz y 3486402259811446830 32 0 wd_3486402259811446830 wd_32 wd_0) (cwS 3 mts gL_texts_L_told rfl rfl rfl (by decide +kernel) ⟨Nat.le_of_ble_eq_true rfl, Nat.le_of_ble_eq_true rfl⟩) rfl rfl rfl (Nat.le_of_ble_eq_true rfl) ⟨Nat.le_of_ble_eq_true rfl, Nat.le_of_ble_eq_true rfl⟩ dL_texts_127 (fun r127 u127 hu127 => ?_)
    rw [List.nil_append, List.append_nil]
    have hr := hu127
    obtain rfl : r127 = iZ (-18) := hr.trans (congrArg iZ tld_127)
    show Gz pp l ee ({ frames := 10, cells := 5000, slots := 50000, locals := 186 } : Room) ss mm args below meth cd 2 2000 20000 Q (Zw D vwCl (va_A wst sz) ss ([] : va_W)) 130 [] [.int (iZ (-18))]
    refine z_bipush mx mb dL_texts_130 (by decide +kernel) ?_
    refine z_icmp_ne (tgt := 160) mx mb (by decide) (by decide) dL_texts_132 (by decide) (fun c132 => absurd c132 (by decide)) (fun _ => ?_)
    refine z_ldc2 (z := 12354) mx mb mo (mts _ (List.mem_of_getElem? (i := 10) rfl)) (by decide +kernel) dL_texts_135 ?_
    refine z_lconst0 mx mb dL_texts_138 ?_
    refine z_lconst0 mx mb dL_texts_139 ?_
    refine z_callSE (wa := []) (wc := []) (wb := []) (As := [.long (lZ 12354), .long (lZ 0), .long (lZ 0)]) (rest := []) ⟨mx, mb, mml, mo, mts⟩ hK hA hE (fun sz => c_L_told l hl0 D sz y 12354 0 0 wd_12354 wd_0 wd_0) (cwS 3 mts gL_texts_L_told rfl rfl rfl (by decide +kernel) ⟨Nat.le_of_ble_eq_true rfl, Nat.le_of_ble_eq_true rfl⟩) rfl rfl rfl (Nat.le_of_ble_eq_true rfl) ⟨Nat.le_of_ble_eq_true rfl, Nat.le_of_ble_eq_true rfl⟩ dL_texts_140 (fun r140 u140 hu140 => ?_)
    rw [List.nil_append, List.append_nil]
    have hr := hu140
    obtain rfl : r140 = iZ (-11) := hr.trans (congrArg iZ tld_140)
    show Gz pp l ee ({ frames := 10, cells := 5000, slots := 50000, locals := 186 } : Room) ss mm args below meth cd 2 2200 22000 Q (Zw D vwCl (va_A wst sz) ss ([] : va_W)) 143 [] [.int (iZ (-11))]
    refine z_bipush mx mb dL_texts_143 (by decide +kernel) ?_
    refine z_icmp_ne (tgt := 160) mx mb (by decide) (by decide) dL_texts_145 (by decide) (fun c145 => absurd c145 (by decide)) (fun _ => ?_)
    refine z_ldc2 (z := 4137745251527962988) mx mb mo (mts _ (List.mem_of_getElem? (i := 11) rfl)) (by decide +kernel) dL_texts_148 ?_
    refine z_lconst0 mx mb dL_texts_151 ?_
    refine z_lconst0 mx mb dL_texts_152 ?_
    refine z_callSE (wa := []) (wc := []) (wb := []) (As := [.long (lZ 4137745251527962988), .long (lZ 0), .long (lZ 0)]) (rest := []) ⟨mx, mb, mml, mo, mts⟩ hK hA hE (fun sz => c_L_told l hl0 D sz y 4137745251527962988 0 0 wd_4137745251527962988 wd_0 wd_0) (cwS 3 mts gL_texts_L_told rfl rfl rfl (by decide +kernel) ⟨Nat.le_of_ble_eq_true rfl, Nat.le_of_ble_eq_true rfl⟩) rfl rfl rfl (Nat.le_of_ble_eq_true rfl) ⟨Nat.le_of_ble_eq_true rfl, Nat.le_of_ble_eq_true rfl⟩ dL_texts_153 (fun r153 u153 hu153 => ?_)
    rw [List.nil_append, List.append_nil]
    have hr := hu153
    obtain rfl : r153 = iZ 4 := hr.trans (congrArg iZ tld_153)
    show Gz pp l ee ({ frames := 10, cells := 5000, slots := 50000, locals := 186 } : Room) ss mm args below meth cd 2 2400 24000 Q (Zw D vwCl (va_A wst sz) ss ([] : va_W)) 156 [] [.int (iZ 4)]
    refine z_iconst mx mb dL_texts_156 ?_
    refine z_icmp_eq (tgt := 162) mx mb (by decide) (by decide) dL_texts_157 (by decide) (fun _ => ?_) (fun c157 => absurd c157 (by decide))
    refine z_ldc2 (z := 3486402259814854754) mx mb mo (mts _ (List.mem_of_getElem? (i := 12) rfl)) (by decide +kernel) dL_texts_162 ?_
    refine z_ldc2 (z := 3486402259814854754) mx mb mo (mts _ (List.mem_of_getElem? (i := 12) rfl)) (by decide +kernel) dL_texts_165 ?_
    refine z_lconst0 mx mb dL_texts_168 ?_
    refine z_callSE (wa := []) (wc := []) (wb := []) (As := [.long (lZ 3486402259814854754), .long (lZ 3486402259814854754), .long (lZ 0)]) (rest := []) ⟨mx, mb, mml, mo, mts⟩ hK hA hE (fun sz => c_L_told l hl0 D sz y 3486402259814854754 3486402259814854754 0 wd_3486402259814854754 wd_3486402259814854754 wd_0) (cwS 3 mts gL_texts_L_told rfl rfl rfl (by decide +kernel) ⟨Nat.le_of_ble_eq_true rfl, Nat.le_of_ble_eq_true rfl⟩) rfl rfl rfl (Nat.le_of_ble_eq_true rfl) ⟨Nat.le_of_ble_eq_true rfl, Nat.le_of_ble_eq_true rfl⟩ dL_texts_169 (fun r169 u169 hu169 => ?_)
    rw [List.nil_append, List.append_nil]
    have hr := hu169
    obtain rfl : r169 = iZ 8 := hr.trans (congrArg iZ tld_169)
    show Gz pp l ee ({ frames := 10, cells := 5000, slots := 50000, locals := 186 } : Room) ss mm args below meth cd 2 2600 26000 Q (Zw D vwCl (va_A wst sz) ss ([] : va_W)) 172 [] [.int (iZ 8)]
    refine z_bipush mx mb dL_texts_172 (by decide +kernel) ?_
    refine z_icmp_ne (tgt := 224) mx mb (by decide) (by decide) dL_texts_174 (by decide) (fun c174 => absurd c174 (by decide)) (fun _ => ?_)
    refine z_ldc2 (z := 3486402259814854754) mx mb mo (mts _ (List.mem_of_getElem? (i := 12) rfl)) (by decide +kernel) dL_texts_177 ?_
    refine z_ldc2 (z := 3486402259814854754) mx mb mo (mts _ (List.mem_of_getElem? (i := 12) rfl)) (by decide +kernel) dL_texts_180 ?_
    refine z_ldc2 (z := 12386) mx mb mo (mts _ (List.mem_of_getElem? (i := 13) rfl)) (by decide +kernel) dL_texts_183 ?_
    refine z_callSE (wa := []) (wc := []) (wb := []) (As := [.long (lZ 3486402259814854754), .long (lZ 3486402259814854754), .long (lZ 12386)]) (rest := []) ⟨mx, mb, mml, mo, mts⟩ hK hA hE (fun sz => c_L_told l hl0 D sz y 3486402259814854754 3486402259814854754 12386 wd_3486402259814854754 wd_3486402259814854754 wd_12386) (cwS 3 mts gL_texts_L_told rfl rfl rfl (by decide +kernel) ⟨Nat.le_of_ble_eq_true rfl, Nat.le_of_ble_eq_true rfl⟩) rfl rfl rfl (Nat.le_of_ble_eq_true rfl) ⟨Nat.le_of_ble_eq_true rfl, Nat.le_of_ble_eq_true rfl⟩ dL_texts_186 (fun r186 u186 hu186 => ?_)
    rw [List.nil_append, List.append_nil]
    have hr := hu186
    obtain rfl : r186 = iZ (-27) := hr.trans (congrArg iZ tld_186)
    show Gz pp l ee ({ frames := 10, cells := 5000, slots := 50000, locals := 186 } : Room) ss mm args below meth cd 2 2800 28000 Q (Zw D vwCl (va_A wst sz) ss ([] : va_W)) 189 [] [.int (iZ (-27))]
    refine z_bipush mx mb dL_texts_189 (by decide +kernel) ?_
    refine z_icmp_ne (tgt := 224) mx mb (by decide) (by decide) dL_texts_191 (by decide) (fun c191 => absurd c191 (by decide)) (fun _ => ?_)
    refine z_ldc2 (z := 3486402259814854754) mx mb mo (mts _ (List.mem_of_getElem? (i := 12) rfl)) (by decide +kernel) dL_texts_194 ?_
    refine z_ldc2 (z := 3486402259814854754) mx mb mo (mts _ (List.mem_of_getElem? (i := 12) rfl)) (by decide +kernel) dL_texts_197 ?_
    refine z_ldc2 (z := 12334) mx mb mo (mts _ (List.mem_of_getElem? (i := 14) rfl)) (by decide +kernel) dL_texts_200 ?_
    refine z_callSE (wa := []) (wc := []) (wb := []) (As := [.long (lZ 3486402259814854754), .long (lZ 3486402259814854754), .long (lZ 12334)]) (rest := []) ⟨mx, mb, mml, mo, mts⟩ hK hA hE (fun sz => c_L_told l hl0 D sz y 3486402259814854754 3486402259814854754 12334 wd_3486402259814854754 wd_3486402259814854754 wd_12334) (cwS 3 mts gL_texts_L_told rfl rfl rfl (by decide +kernel) ⟨Nat.le_of_ble_eq_true rfl, Nat.le_of_ble_eq_true rfl⟩) rfl rfl rfl (Nat.le_of_ble_eq_true rfl) ⟨Nat.le_of_ble_eq_true rfl, Nat.le_of_ble_eq_true rfl⟩ dL_texts_203 (fun r203 u203 hu203 => ?_)
    rw [List.nil_append, List.append_nil]
    have hr := hu203
    obtain rfl : r203 = iZ 9 := hr.trans (congrArg iZ tld_203)
    show Gz pp l ee ({ frames := 10, cells := 5000, slots := 50000, locals := 186 } : Room) ss mm args below meth cd 2 3000 30000 Q (Zw D vwCl (va_A wst sz) ss ([] : va_W)) 206 [] [.int (iZ 9)]
    refine z_bipush mx mb dL_texts_206 (by decide +kernel) ?_
    refine z_icmp_ne (tgt := 224) mx mb (by decide) (by decide) dL_texts_208 (by decide) (fun c208 => absurd c208 (by decide)) (fun _ => ?_)
    refine z_ldc2 (z := 48) mx mb mo (mts _ (List.mem_of_getElem? (i := 15) rfl)) (by decide +kernel) dL_texts_211 ?_
    refine z_lconst0 mx mb dL_texts_214 ?_
    refine z_lconst0 mx mb dL_texts_215 ?_
    refine z_callSE (wa := []) (wc := []) (wb := []) (As := [.long (lZ 48), .long (lZ 0), .long (lZ 0)]) (rest := []) ⟨mx, mb, mml, mo, mts⟩ hK hA hE (fun sz => c_L_told l hl0 D sz y 48 0 0 wd_48 wd_0 wd_0) (cwS 3 mts gL_texts_L_told rfl rfl rfl (by decide +kernel) ⟨Nat.le_of_ble_eq_true rfl, Nat.le_of_ble_eq_true rfl⟩) rfl rfl rfl (Nat.le_of_ble_eq_true rfl) ⟨Nat.le_of_ble_eq_true rfl, Nat.le_of_ble_eq_true rfl⟩ dL_texts_216 (fun r216 u216 hu216 => ?_)
    rw [List.nil_append, List.append_nil]
    have hr := hu216
    obtain rfl : r216 = iZ (-11) := hr.trans (congrArg iZ tld_216)
    show Gz pp l ee ({ frames := 10, cells := 5000, slots := 50000, locals := 186 } : Room) ss mm args below meth cd 2 3200 32000 Q (Zw D vwCl (va_A wst sz) ss ([] : va_W)) 219 [] [.int (iZ (-11))]
    refine z_bipush mx mb dL_texts_219 (by decide +kernel) ?_
    refine z_icmp_eq (tgt := 226) mx mb (by decide) (by decide) dL_texts_221 (by decide) (fun _ => ?_) (fun c221 => absurd c221 (by decide))
    refine z_ldc2 (z := 13618758827401826) mx mb mo (mts _ (List.mem_of_getElem? (i := 16) rfl)) (by decide +kernel) dL_texts_226 ?_
    refine z_lconst0 mx mb dL_texts_229 ?_
    refine z_lconst0 mx mb dL_texts_230 ?_
    refine z_callSE (wa := []) (wc := []) (wb := []) (As := [.long (lZ 13618758827401826), .long (lZ 0), .long (lZ 0)]) (rest := []) ⟨mx, mb, mml, mo, mts⟩ hK hA hE (fun sz => c_L_told l hl0 D sz y 13618758827401826 0 0 wd_13618758827401826 wd_0 wd_0) (cwS 3 mts gL_texts_L_told rfl rfl rfl (by decide +kernel) ⟨Nat.le_of_ble_eq_true rfl, Nat.le_of_ble_eq_true rfl⟩) rfl rfl rfl (Nat.le_of_ble_eq_true rfl) ⟨Nat.le_of_ble_eq_true rfl, Nat.le_of_ble_eq_true rfl⟩ dL_texts_231 (fun r231 u231 hu231 => ?_)
    rw [List.nil_append, List.append_nil]
    have hr := hu231
    obtain rfl : r231 = iZ (-16) := hr.trans (congrArg iZ tld_231)
    show Gz pp l ee ({ frames := 10, cells := 5000, slots := 50000, locals := 186 } : Room) ss mm args below meth cd 2 3400 34000 Q (Zw D vwCl (va_A wst sz) ss ([] : va_W)) 234 [] [.int (iZ (-16))]
    refine z_bipush mx mb dL_texts_234 (by decide +kernel) ?_
    refine z_icmp_eq (tgt := 241) mx mb (by decide) (by decide) dL_texts_236 (by decide) (fun _ => ?_) (fun c236 => absurd c236 (by decide))
    refine z_new (ci := 4) (C := RX4) (T := TX4) (N := 5) mx mb mts (in_L_texts_X4) tyX4_ok mo (mts _ (List.mem_of_getElem? (i := 17) rfl)) (mts _ (List.mem_of_getElem? (i := 18) rfl)) (mts _ (List.mem_of_getElem? (i := 19) rfl)) hK hA rfl [.null, .null, .null, .null, .int (iZ 0)] (by decide) (Nat.le_of_ble_eq_true rfl) (Nat.le_of_ble_eq_true rfl) dL_texts_241 (fun q241 => ?_)
    show Gz pp l ee ({ frames := 10, cells := 5000, slots := 50000, locals := 186 } : Room) ss mm args below meth cd 2 3401 34005 Q (Zw D vwCl (va_A wst sz) ss ([(q241, .inr (4, [.null, .null, .null, .null, .int (iZ 0)]))] : va_W)) 244 [] [.ref q241]
    refine z_dup mx mb dL_texts_244 rfl ?_
    refine z_callCE (wa := []) (wc := ([(q241, .inr (4, [.null, .null, .null, .null, .int (iZ 0)]))] : va_W)) (wb := []) (As := []) (rest := [.ref q241]) ⟨mx, mb, mml, mo, mts⟩ hK hA hE (fun sz => c_X4_init l D sz y q241) (cwI 0 mts gL_texts_X4_init rfl rfl rfl (mts _ (List.mem_of_getElem? (i := 19) rfl)) (mts _ (List.mem_of_getElem? (i := 25) rfl)) (mts _ (List.mem_of_getElem? (i := 26) rfl)) rfl (by decide +kernel) ⟨Nat.le_of_ble_eq_true rfl, Nat.le_of_ble_eq_true rfl⟩) (List.append_nil _).symm rfl rfl (Nat.le_of_ble_eq_true rfl) ⟨Nat.le_of_ble_eq_true rfl, Nat.le_of_ble_eq_true rfl⟩ dL_texts_245 (fun u245 hu245 => ?_)
    rw [List.nil_append, List.append_nil]
    obtain ⟨o245, a245, S245, tb245⟩ := u245
    obtain ⟨h0245, hR245⟩ := hu245
    replace h0245 : o245 0 = q241 := h0245
    subst h0245
    have hT245 : Tie new0 S245 := tie_new hR245
    show Gz pp l ee ({ frames := 10, cells := 5000, slots := 50000, locals := 186 } : Room) ss mm args below meth cd 2 3496 35519 Q (Zw D vwCl (va_A wst sz) ss (wC y o245 a245 S245 tb245 new0)) 248 [] [.ref (o245 0)]
    refine z_astore_n mx mb dL_texts_248 rfl (by decide) [(0, .ref (o245 0))] rfl ?_
    refine z_aload_n mx mb dL_texts_249 rfl 0 rfl ?_
    refine z_ldc2 (z := 811741282) mx mb mo (mts _ (List.mem_of_getElem? (i := 20) rfl)) (by decide +kernel) dL_texts_250 ?_
    refine z_callSEv (wa := []) (wc := (wC y o245 a245 S245 tb245 new0)) (wb := []) (As := [.ref (o245 0), .long (lZ 811741282)]) (rest := []) ⟨mx, mb, mml, mo, mts⟩ hK hA hE (fun sz => c_L_types l hl0 D sz y o245 a245 S245 tb245 new0 811741282 wd_811741282 (by decide) hT245) (cwS 2 mts gL_texts_L_types rfl rfl rfl (by decide +kernel) ⟨Nat.le_of_ble_eq_true rfl, Nat.le_of_ble_eq_true rfl⟩) (List.append_nil _).symm rfl rfl (Nat.le_of_ble_eq_true rfl) ⟨Nat.le_of_ble_eq_true rfl, Nat.le_of_ble_eq_true rfl⟩ dL_texts_253 (fun u253 hu253 => ?_)
    rw [List.nil_append, List.append_nil]
    obtain ⟨a253, S253⟩ := u253
    have hT253 := hu253
    replace hT253 : Tie (typW 811741282 8 new0) S253 := hT253
    show Gz pp l ee ({ frames := 10, cells := 5000, slots := 50000, locals := 186 } : Room) ss mm args below meth cd 2 3504 35567 Q (Zw D vwCl (va_A wst sz) ss (wC y o245 a253 S253 tb245 (typW 811741282 8 new0))) 256 [(0, .ref (o245 0))] []
    refine z_iconst mx mb dL_texts_256 ?_
    refine z_istore_n mx mb dL_texts_257 rfl (by decide) [(1, .int (iZ 0)), (0, .ref (o245 0))] rfl ?_
    have lp258 : ∀ (nn : Nat) (i7 : Nat) (x1 : Int) (a9 : Nat → Nat → Nat) (S9 : Nat → Nat → Int → Int) (k n : Nat), 56 - i7 < nn → (i7 ≤ 56) → (x1 = (i7 : Int)) → (k ≤ 3600 + i7) → (n ≤ 36000 + 6 * i7) → (Tie (tpL i7) S9) → Gz pp l ee ({ frames := 10, cells := 5000, slots := 50000, locals := 186 } : Room) ss mm args below meth cd 2 k n Q (Zw D vwCl (va_A wst sz) ss (wC y o245 a9 S9 tb245 (tpL i7))) 258 [(0, .ref (o245 0)), (1, .int (iZ x1))] [] := by
      intro nn
      induction nn with
      | zero => exact fun i7 x1 a9 S9 k n hm => absurd hm (Nat.not_lt_zero _)
      | succ nn ih258 =>
        intro i7 x1 a9 S9 k n hm h7i h7e h7k h7n h7T
        refine z_iload_n mx mb dL_texts_258 rfl 1 rfl ?_
        refine z_bipush mx mb dL_texts_259 (by decide +kernel) ?_
        refine z_icmp_ge (tgt := 295) mx mb (by omega) (by omega) dL_texts_261 (by decide) (fun c261 => ?_) (fun c261 => ?_)
        · skip
          obtain rfl : i7 = 56 := by omega
          refine z_aload_n mx mb dL_texts_295 rfl 0 rfl ?_
          refine z_callI (wa := []) (wc := (wC y o245 a9 S9 tb245 (tpL 56))) (wb := []) (As := []) (rest := []) ⟨mx, mb, mml, mo, mts⟩ hK hA (fun sz => c_X4_parse l D sz y o245 a9 S9 tb245 (tpL 56).2.2.2.1 (tpL 56).2.2.2.2 (tpL 56).2.2.1 (tpL 56).1 h7T.1.1 h7T.1.2.1 h7T.1.2.2.1 h7T.2.1 h7T.2.2.2.1 h7T.2.2.2.2 tx_f1) (cwV 0 mts gL_texts_X4_parse rfl rfl rfl (by decide +kernel) ⟨Nat.le_of_ble_eq_true rfl, Nat.le_of_ble_eq_true rfl⟩) (List.append_nil _).symm 0 wB_0 rfl rfl rfl rfl (Nat.le_of_ble_eq_true rfl) ⟨by show _ ≤ 5000; omega, by show _ ≤ 50000; omega⟩ dL_texts_296 (fun r296 u296 hu296 => ?_)
          rw [List.nil_append, List.append_nil]
          obtain ⟨a296, S296⟩ := u296
          obtain ⟨hr, hv0, hv1, hv2, hv3, hv4⟩ := hu296
          have hT296 : Tie (parS (tpL 56)) S296 := tie_parse h7T tx_f1 hv2 hv3 hv4
          obtain rfl : r296 = iZ 30 := hr.trans (congrArg iZ tx_l1)
          replace hT296 : Tie tX1 S296 := hT296
          show Gz pp l ee ({ frames := 10, cells := 5000, slots := 50000, locals := 186 } : Room) ss mm args below meth cd 2 (k + 0) (n + 0) Q (Zw D vwCl (va_A wst sz) ss (wC y o245 a296 S296 tb245 (parS (tpL 56)))) 299 [(0, .ref (o245 0)), (1, .int (iZ x1))] [.int (iZ 30)]
          show Gz pp l ee ({ frames := 10, cells := 5000, slots := 50000, locals := 186 } : Room) ss mm args below meth cd 2 (k + 0) (n + 0) Q (Zw D vwCl (va_A wst sz) ss (wC y o245 a296 S296 tb245 tX1)) 299 [(0, .ref (o245 0)), (1, .int (iZ x1))] [.int (iZ 30)]
          refine z_bipush mx mb dL_texts_299 (by decide +kernel) ?_
          refine z_icmp_ne (tgt := 384) mx mb (by decide) (by decide) dL_texts_301 (by decide) (fun c301 => absurd c301 (by decide)) (fun _ => ?_)
          refine z_aload_n mx mb dL_texts_304 rfl 0 rfl ?_
          refine z_iconst mx mb dL_texts_305 ?_
          refine z_callSI (wa := []) (wc := (wC y o245 a296 S296 tb245 tX1)) (wb := []) (As := [.ref (o245 0), .int (iZ 0)]) (rest := []) ⟨mx, mb, mml, mo, mts⟩ hK hA hE (fun sz => c_L_all l hl0 D sz y o245 a296 S296 tb245 tX1 0 (by decide) hT296) (vx_cwSW 2 mts gL_texts_L_all rfl rfl rfl (by decide +kernel) ⟨Nat.le_of_ble_eq_true rfl, Nat.le_of_ble_eq_true rfl⟩) (List.append_nil _).symm rfl rfl (Nat.le_of_ble_eq_true rfl) ⟨by show _ ≤ 5000; omega, by show _ ≤ 50000; omega⟩ dL_texts_306 (fun r306 u306 hu306 => ?_)
          rw [List.nil_append, List.append_nil]
          obtain ⟨a306, S306⟩ := u306
          obtain ⟨hr, hT306⟩ := hu306
          replace hT306 : Tie tX1 S306 := hT306
          obtain rfl : r306 = iZ 30 := hr.trans (congrArg iZ tx_a306)
          show Gz pp l ee ({ frames := 10, cells := 5000, slots := 50000, locals := 186 } : Room) ss mm args below meth cd 2 (k + 0 + 1) (n + 0 + 6) Q (Zw D vwCl (va_A wst sz) ss (wC y o245 a306 S306 tb245 tX1)) 309 [(0, .ref (o245 0)), (1, .int (iZ x1))] [.int (iZ 30)]
          refine z_bipush mx mb dL_texts_309 (by decide +kernel) ?_
          refine z_icmp_ne (tgt := 384) mx mb (by decide) (by decide) dL_texts_311 (by decide) (fun c311 => absurd c311 (by decide)) (fun _ => ?_)
          refine z_aload_n mx mb dL_texts_314 rfl 0 rfl ?_
          refine z_iconst mx mb dL_texts_315 ?_
          refine z_callSI (wa := []) (wc := (wC y o245 a306 S306 tb245 tX1)) (wb := []) (As := [.ref (o245 0), .int (iZ 1)]) (rest := []) ⟨mx, mb, mml, mo, mts⟩ hK hA hE (fun sz => c_L_all l hl0 D sz y o245 a306 S306 tb245 tX1 1 (by decide) hT306) (vx_cwSW 2 mts gL_texts_L_all rfl rfl rfl (by decide +kernel) ⟨Nat.le_of_ble_eq_true rfl, Nat.le_of_ble_eq_true rfl⟩) (List.append_nil _).symm rfl rfl (Nat.le_of_ble_eq_true rfl) ⟨by show _ ≤ 5000; omega, by show _ ≤ 50000; omega⟩ dL_texts_316 (fun r316 u316 hu316 => ?_)
          rw [List.nil_append, List.append_nil]
          obtain ⟨a316, S316⟩ := u316
          obtain ⟨hr, hT316⟩ := hu316
          replace hT316 : Tie tX1 S316 := hT316
          obtain rfl : r316 = iZ 2 := hr.trans (congrArg iZ tx_a316)
          show Gz pp l ee ({ frames := 10, cells := 5000, slots := 50000, locals := 186 } : Room) ss mm args below meth cd 2 (k + 0 + 1 + 1) (n + 0 + 6 + 6) Q (Zw D vwCl (va_A wst sz) ss (wC y o245 a316 S316 tb245 tX1)) 319 [(0, .ref (o245 0)), (1, .int (iZ x1))] [.int (iZ 2)]
          refine z_iconst mx mb dL_texts_319 ?_
          refine z_icmp_ne (tgt := 384) mx mb (by decide) (by decide) dL_texts_320 (by decide) (fun c320 => absurd c320 (by decide)) (fun _ => ?_)
          refine z_aload_n mx mb dL_texts_323 rfl 0 rfl ?_
          refine z_iconst mx mb dL_texts_324 ?_
          refine z_iconst mx mb dL_texts_325 ?_
          refine z_callSI (wa := []) (wc := (wC y o245 a316 S316 tb245 tX1)) (wb := []) (As := [.ref (o245 0), .int (iZ 0), .int (iZ 2)]) (rest := []) ⟨mx, mb, mml, mo, mts⟩ hK hA hE (fun sz => c_L_blockBy l hl0 D sz y o245 a316 S316 tb245 tX1 0 2 (by decide) (by decide) hT316) (vx_cwSW 3 mts gL_texts_L_blockBy rfl rfl rfl (by decide +kernel) ⟨Nat.le_of_ble_eq_true rfl, Nat.le_of_ble_eq_true rfl⟩) (List.append_nil _).symm rfl rfl (Nat.le_of_ble_eq_true rfl) ⟨by show _ ≤ 5000; omega, by show _ ≤ 50000; omega⟩ dL_texts_326 (fun r326 u326 hu326 => ?_)
          rw [List.nil_append, List.append_nil]
          obtain ⟨a326, S326⟩ := u326
          obtain ⟨hr, hT326⟩ := hu326
          replace hT326 : Tie tX1 S326 := hT326
          obtain rfl : r326 = iZ 29 := hr.trans (congrArg iZ tx_a326)
          show Gz pp l ee ({ frames := 10, cells := 5000, slots := 50000, locals := 186 } : Room) ss mm args below meth cd 2 (k + 0 + 1 + 1 + 1) (n + 0 + 6 + 6 + 6) Q (Zw D vwCl (va_A wst sz) ss (wC y o245 a326 S326 tb245 tX1)) 329 [(0, .ref (o245 0)), (1, .int (iZ x1))] [.int (iZ 29)]
          refine z_bipush mx mb dL_texts_329 (by decide +kernel) ?_
          refine z_icmp_ne (tgt := 384) mx mb (by decide) (by decide) dL_texts_331 (by decide) (fun c331 => absurd c331 (by decide)) (fun _ => ?_)
          refine z_aload_n mx mb dL_texts_334 rfl 0 rfl ?_
          refine z_iconst mx mb dL_texts_335 ?_
          refine z_iconst mx mb dL_texts_336 ?_
          refine z_callSI (wa := []) (wc := (wC y o245 a326 S326 tb245 tX1)) (wb := []) (As := [.ref (o245 0), .int (iZ 0), .int (iZ 0)]) (rest := []) ⟨mx, mb, mml, mo, mts⟩ hK hA hE (fun sz => c_L_blockBy l hl0 D sz y o245 a326 S326 tb245 tX1 0 0 (by decide) (by decide) hT326) (vx_cwSW 3 mts gL_texts_L_blockBy rfl rfl rfl (by decide +kernel) ⟨Nat.le_of_ble_eq_true rfl, Nat.le_of_ble_eq_true rfl⟩) (List.append_nil _).symm rfl rfl (Nat.le_of_ble_eq_true rfl) ⟨by show _ ≤ 5000; omega, by show _ ≤ 50000; omega⟩ dL_texts_337 (fun r337 u337 hu337 => ?_)
          rw [List.nil_append, List.append_nil]
          obtain ⟨a337, S337⟩ := u337
          obtain ⟨hr, hT337⟩ := hu337
          replace hT337 : Tie tX1 S337 := hT337
          obtain rfl : r337 = iZ 2 := hr.trans (congrArg iZ tx_a337)
          show Gz pp l ee ({ frames := 10, cells := 5000, slots := 50000, locals := 186 } : Room) ss mm args below meth cd 2 (k + 0 + 1 + 1 + 1 + 1) (n + 0 + 6 + 6 + 6 + 6) Q (Zw D vwCl (va_A wst sz) ss (wC y o245 a337 S337 tb245 tX1)) 340 [(0, .ref (o245 0)), (1, .int (iZ x1))] [.int (iZ 2)]
          refine z_iconst mx mb dL_texts_340 ?_
          refine z_icmp_ne (tgt := 384) mx mb (by decide) (by decide) dL_texts_341 (by decide) (fun c341 => absurd c341 (by decide)) (fun _ => ?_)
          refine z_aload_n mx mb dL_texts_344 rfl 0 rfl ?_
          refine z_bipush mx mb dL_texts_345 (by decide +kernel) ?_
          refine z_callSI (wa := []) (wc := (wC y o245 a337 S337 tb245 tX1)) (wb := []) (As := [.ref (o245 0), .int (iZ 48)]) (rest := []) ⟨mx, mb, mml, mo, mts⟩ hK hA hE (fun sz => c_L_typing l hl0 D sz y o245 a337 S337 tb245 tX1 48 (by decide) hT337) (vx_cwSW 2 mts gL_texts_L_typing rfl rfl rfl (by decide +kernel) ⟨Nat.le_of_ble_eq_true rfl, Nat.le_of_ble_eq_true rfl⟩) (List.append_nil _).symm rfl rfl (Nat.le_of_ble_eq_true rfl) ⟨by show _ ≤ 5000; omega, by show _ ≤ 50000; omega⟩ dL_texts_347 (fun r347 u347 hu347 => ?_)
          rw [List.nil_append, List.append_nil]
          obtain ⟨a347, S347⟩ := u347
          obtain ⟨hr, hT347⟩ := hu347
          replace hT347 : Tie (typS tX1 48) S347 := hT347
          obtain rfl : r347 = iZ 61 := hr.trans (congrArg iZ ((typ_in (st := tX1) (v := 48) (by decide) (by rw [tx_len1]; decide)).1.trans (by rw [tx_len1]; rfl)))
          show Gz pp l ee ({ frames := 10, cells := 5000, slots := 50000, locals := 186 } : Room) ss mm args below meth cd 2 (k + 0 + 1 + 1 + 1 + 1 + 1) (n + 0 + 6 + 6 + 6 + 6 + 6) Q (Zw D vwCl (va_A wst sz) ss (wC y o245 a347 S347 tb245 (typS tX1 48))) 350 [(0, .ref (o245 0)), (1, .int (iZ x1))] [.int (iZ 61)]
          rw [(show typS tX1 48 = tX2 from rfl)]
          rw [(show typS tX1 48 = tX2 from rfl)] at hT347
          refine z_bipush mx mb dL_texts_350 (by decide +kernel) ?_
          refine z_icmp_ne (tgt := 384) mx mb (by decide) (by decide) dL_texts_352 (by decide) (fun c352 => absurd c352 (by decide)) (fun _ => ?_)
          refine z_aload_n mx mb dL_texts_355 rfl 0 rfl ?_
          refine z_callI (wa := []) (wc := (wC y o245 a347 S347 tb245 tX2)) (wb := []) (As := []) (rest := []) ⟨mx, mb, mml, mo, mts⟩ hK hA (fun sz => c_X4_parse_bad l D sz y o245 a347 S347 tb245 tX2.2.2.2.1 tX2.2.2.2.2 tX2.2.2.1 tX2.1 hT347.2.2.2.1 hT347.2.2.2.2 (by rw [tx_f2]; decide)) (cwV 0 mts gL_texts_X4_parse rfl rfl rfl (by decide +kernel) ⟨Nat.le_of_ble_eq_true rfl, Nat.le_of_ble_eq_true rfl⟩) (List.append_nil _).symm 0 wB_0 rfl rfl rfl rfl (Nat.le_of_ble_eq_true rfl) ⟨by show _ ≤ 5000; omega, by show _ ≤ 50000; omega⟩ dL_texts_356 (fun r356 u356 hu356 => ?_)
          rw [List.nil_append, List.append_nil]
          obtain rfl : r356 = iZ (-70) := hu356.trans (congrArg iZ (show -10 - fault tX2.2.2.2.1 tX2.2.2.2.2 = -70 from by rw [tx_f2]; rfl))
          show Gz pp l ee ({ frames := 10, cells := 5000, slots := 50000, locals := 186 } : Room) ss mm args below meth cd 2 (k + 0 + 1 + 1 + 1 + 1 + 1 + 0) (n + 0 + 6 + 6 + 6 + 6 + 6 + 0) Q (Zw D vwCl (va_A wst sz) ss (wC y o245 a347 S347 tb245 tX2)) 359 [(0, .ref (o245 0)), (1, .int (iZ x1))] [.int (iZ (-70))]
          refine z_bipush mx mb dL_texts_359 (by decide +kernel) ?_
          refine z_icmp_ne (tgt := 384) mx mb (by decide) (by decide) dL_texts_361 (by decide) (fun c361 => absurd c361 (by decide)) (fun _ => ?_)
          refine z_aload_n mx mb dL_texts_364 rfl 0 rfl ?_
          refine z_iconst mx mb dL_texts_365 ?_
          refine z_callSI (wa := []) (wc := (wC y o245 a347 S347 tb245 tX2)) (wb := []) (As := [.ref (o245 0), .int (iZ 0)]) (rest := []) ⟨mx, mb, mml, mo, mts⟩ hK hA hE (fun sz => c_L_all l hl0 D sz y o245 a347 S347 tb245 tX2 0 (by decide) hT347) (vx_cwSW 2 mts gL_texts_L_all rfl rfl rfl (by decide +kernel) ⟨Nat.le_of_ble_eq_true rfl, Nat.le_of_ble_eq_true rfl⟩) (List.append_nil _).symm rfl rfl (Nat.le_of_ble_eq_true rfl) ⟨by show _ ≤ 5000; omega, by show _ ≤ 50000; omega⟩ dL_texts_366 (fun r366 u366 hu366 => ?_)
          rw [List.nil_append, List.append_nil]
          obtain ⟨a366, S366⟩ := u366
          obtain ⟨hr, hT366⟩ := hu366
          replace hT366 : Tie tX2 S366 := hT366
          obtain rfl : r366 = iZ 30 := hr.trans (congrArg iZ tx_a366)
          show Gz pp l ee ({ frames := 10, cells := 5000, slots := 50000, locals := 186 } : Room) ss mm args below meth cd 2 (k + 0 + 1 + 1 + 1 + 1 + 1 + 0 + 1) (n + 0 + 6 + 6 + 6 + 6 + 6 + 0 + 6) Q (Zw D vwCl (va_A wst sz) ss (wC y o245 a366 S366 tb245 tX2)) 369 [(0, .ref (o245 0)), (1, .int (iZ x1))] [.int (iZ 30)]
          refine z_bipush mx mb dL_texts_369 (by decide +kernel) ?_
          refine z_icmp_ne (tgt := 384) mx mb (by decide) (by decide) dL_texts_371 (by decide) (fun c371 => absurd c371 (by decide)) (fun _ => ?_)
          refine z_aload_n mx mb dL_texts_374 rfl 0 rfl ?_
          refine z_bipush mx mb dL_texts_375 (by decide +kernel) ?_
          refine z_callSI (wa := []) (wc := (wC y o245 a366 S366 tb245 tX2)) (wb := []) (As := [.ref (o245 0), .int (iZ 11)]) (rest := []) ⟨mx, mb, mml, mo, mts⟩ hK hA hE (fun sz => c_L_all l hl0 D sz y o245 a366 S366 tb245 tX2 11 (by decide) hT366) (vx_cwSW 2 mts gL_texts_L_all rfl rfl rfl (by decide +kernel) ⟨Nat.le_of_ble_eq_true rfl, Nat.le_of_ble_eq_true rfl⟩) (List.append_nil _).symm rfl rfl (Nat.le_of_ble_eq_true rfl) ⟨by show _ ≤ 5000; omega, by show _ ≤ 50000; omega⟩ dL_texts_377 (fun r377 u377 hu377 => ?_)
          rw [List.nil_append, List.append_nil]
          obtain ⟨a377, S377⟩ := u377
          obtain ⟨hr, hT377⟩ := hu377
          replace hT377 : Tie tX2 S377 := hT377
          obtain rfl : r377 = iZ 3 := hr.trans (congrArg iZ tx_a377)
          show Gz pp l ee ({ frames := 10, cells := 5000, slots := 50000, locals := 186 } : Room) ss mm args below meth cd 2 (k + 0 + 1 + 1 + 1 + 1 + 1 + 0 + 1 + 1) (n + 0 + 6 + 6 + 6 + 6 + 6 + 0 + 6 + 6) Q (Zw D vwCl (va_A wst sz) ss (wC y o245 a377 S377 tb245 tX2)) 380 [(0, .ref (o245 0)), (1, .int (iZ x1))] [.int (iZ 3)]
          refine z_iconst mx mb dL_texts_380 ?_
          refine z_icmp_eq (tgt := 386) mx mb (by decide) (by decide) dL_texts_381 (by decide) (fun _ => ?_) (fun c381 => absurd c381 (by decide))
          refine z_bipush mx mb dL_texts_386 (by decide +kernel) ?_
          refine z_istore_n mx mb dL_texts_388 rfl (by decide) [(1, .int (iZ 62)), (0, .ref (o245 0))] rfl ?_
          have lp389 : ∀ (nn : Nat) (i8 : Nat) (x2 : Int) (a10 : Nat → Nat → Nat) (S10 : Nat → Nat → Int → Int) (k2 n2 : Nat), 29 - i8 < nn → (i8 ≤ 29) → (x2 = 62 + (i8 : Int)) → (k2 ≤ 3700 + i8) → (n2 ≤ 37000 + 6 * i8) → (Tie (tqL i8) S10) → Gz pp l ee ({ frames := 10, cells := 5000, slots := 50000, locals := 186 } : Room) ss mm args below meth cd 2 k2 n2 Q (Zw D vwCl (va_A wst sz) ss (wC y o245 a10 S10 tb245 (tqL i8))) 389 [(0, .ref (o245 0)), (1, .int (iZ x2))] [] := by
            intro nn
            induction nn with
            | zero => exact fun i8 x2 a10 S10 k2 n2 hm => absurd hm (Nat.not_lt_zero _)
            | succ nn ih389 =>
              intro i8 x2 a10 S10 k2 n2 hm h8i h8e h8k h8n h8T
              refine z_iload_n mx mb dL_texts_389 rfl 1 rfl ?_
              refine z_bipush mx mb dL_texts_390 (by decide +kernel) ?_
              refine z_icmp_gt (tgt := 413) mx mb (by omega) (by omega) dL_texts_392 (by decide) (fun c392 => ?_) (fun c392 => ?_)
              · skip
                obtain rfl : i8 = 29 := by omega
                refine z_aload_n mx mb dL_texts_413 rfl 0 rfl ?_
                refine z_bipush mx mb dL_texts_414 (by decide +kernel) ?_
                refine z_callSI (wa := []) (wc := (wC y o245 a10 S10 tb245 (tqL 29))) (wb := []) (As := [.ref (o245 0), .int (iZ 46)]) (rest := []) ⟨mx, mb, mml, mo, mts⟩ hK hA hE (fun sz => c_L_typing l hl0 D sz y o245 a10 S10 tb245 (tqL 29) 46 (by decide) h8T) (vx_cwSW 2 mts gL_texts_L_typing rfl rfl rfl (by decide +kernel) ⟨Nat.le_of_ble_eq_true rfl, Nat.le_of_ble_eq_true rfl⟩) (List.append_nil _).symm rfl rfl (Nat.le_of_ble_eq_true rfl) ⟨by show _ ≤ 5000; omega, by show _ ≤ 50000; omega⟩ dL_texts_416 (fun r416 u416 hu416 => ?_)
                rw [List.nil_append, List.append_nil]
                obtain ⟨a416, S416⟩ := u416
                obtain ⟨hr, hT416⟩ := hu416
                replace hT416 : Tie (typS (tqL 29) 46) S416 := hT416
                obtain rfl : r416 = iZ (-3003) := hr.trans (congrArg iZ (full_typ (tqL_len 29 (by decide))).1)
                show Gz pp l ee ({ frames := 10, cells := 5000, slots := 50000, locals := 186 } : Room) ss mm args below meth cd 2 (k2 + 1) (n2 + 6) Q (Zw D vwCl (va_A wst sz) ss (wC y o245 a416 S416 tb245 (typS (tqL 29) 46))) 419 [(0, .ref (o245 0)), (1, .int (iZ x2))] [.int (iZ (-3003))]
                rw [(full_typ (tqL_len 29 (by decide))).2]
                rw [(full_typ (tqL_len 29 (by decide))).2] at hT416
                refine z_sipush mx mb dL_texts_419 (by decide +kernel) ?_
                refine z_icmp_ne (tgt := 503) mx mb (by decide) (by decide) dL_texts_422 (by decide) (fun c422 => absurd c422 (by decide)) (fun _ => ?_)
                refine z_aload_n mx mb dL_texts_425 rfl 0 rfl ?_
                refine z_sipush mx mb dL_texts_426 (by decide +kernel) ?_
                refine z_callSI (wa := []) (wc := (wC y o245 a416 S416 tb245 (tqL 29))) (wb := []) (As := [.ref (o245 0), .int (iZ 128)]) (rest := []) ⟨mx, mb, mml, mo, mts⟩ hK hA hE (fun sz => c_L_typing l hl0 D sz y o245 a416 S416 tb245 (tqL 29) 128 (by decide) hT416) (vx_cwSW 2 mts gL_texts_L_typing rfl rfl rfl (by decide +kernel) ⟨Nat.le_of_ble_eq_true rfl, Nat.le_of_ble_eq_true rfl⟩) (List.append_nil _).symm rfl rfl (Nat.le_of_ble_eq_true rfl) ⟨by show _ ≤ 5000; omega, by show _ ≤ 50000; omega⟩ dL_texts_429 (fun r429 u429 hu429 => ?_)
                rw [List.nil_append, List.append_nil]
                obtain ⟨a429, S429⟩ := u429
                obtain ⟨hr, hT429⟩ := hu429
                replace hT429 : Tie (typS (tqL 29) 128) S429 := hT429
                obtain rfl : r429 = iZ (-3002) := hr.trans (congrArg iZ (rf_typ (tqL 29) 128 (by decide)).1)
                show Gz pp l ee ({ frames := 10, cells := 5000, slots := 50000, locals := 186 } : Room) ss mm args below meth cd 2 (k2 + 1 + 1) (n2 + 6 + 6) Q (Zw D vwCl (va_A wst sz) ss (wC y o245 a429 S429 tb245 (typS (tqL 29) 128))) 432 [(0, .ref (o245 0)), (1, .int (iZ x2))] [.int (iZ (-3002))]
                rw [(rf_typ (tqL 29) 128 (by decide)).2]
                rw [(rf_typ (tqL 29) 128 (by decide)).2] at hT429
                refine z_sipush mx mb dL_texts_432 (by decide +kernel) ?_
                refine z_icmp_ne (tgt := 503) mx mb (by decide) (by decide) dL_texts_435 (by decide) (fun c435 => absurd c435 (by decide)) (fun _ => ?_)
                refine z_aload_n mx mb dL_texts_438 rfl 0 rfl ?_
                refine z_callI (wa := []) (wc := (wC y o245 a429 S429 tb245 (tqL 29))) (wb := []) (As := []) (rest := []) ⟨mx, mb, mml, mo, mts⟩ hK hA (fun sz => c_X4_parse_bad l D sz y o245 a429 S429 tb245 (tqL 29).2.2.2.1 (tqL 29).2.2.2.2 (tqL 29).2.2.1 (tqL 29).1 hT429.2.2.2.1 hT429.2.2.2.2 (by rw [tx_f3]; decide)) (cwV 0 mts gL_texts_X4_parse rfl rfl rfl (by decide +kernel) ⟨Nat.le_of_ble_eq_true rfl, Nat.le_of_ble_eq_true rfl⟩) (List.append_nil _).symm 0 wB_0 rfl rfl rfl rfl (Nat.le_of_ble_eq_true rfl) ⟨by show _ ≤ 5000; omega, by show _ ≤ 50000; omega⟩ dL_texts_439 (fun r439 u439 hu439 => ?_)
                rw [List.nil_append, List.append_nil]
                obtain rfl : r439 = iZ (-70) := hu439.trans (congrArg iZ (show -10 - fault (tqL 29).2.2.2.1 (tqL 29).2.2.2.2 = -70 from by rw [tx_f3]; rfl))
                show Gz pp l ee ({ frames := 10, cells := 5000, slots := 50000, locals := 186 } : Room) ss mm args below meth cd 2 (k2 + 1 + 1 + 0) (n2 + 6 + 6 + 0) Q (Zw D vwCl (va_A wst sz) ss (wC y o245 a429 S429 tb245 (tqL 29))) 442 [(0, .ref (o245 0)), (1, .int (iZ x2))] [.int (iZ (-70))]
                refine z_bipush mx mb dL_texts_442 (by decide +kernel) ?_
                refine z_icmp_ne (tgt := 503) mx mb (by decide) (by decide) dL_texts_444 (by decide) (fun c444 => absurd c444 (by decide)) (fun _ => ?_)
                refine z_aload_n mx mb dL_texts_447 rfl 0 rfl ?_
                refine z_callI (wa := []) (wc := (wC y o245 a429 S429 tb245 (tqL 29))) (wb := []) (As := []) (rest := []) ⟨mx, mb, mml, mo, mts⟩ hK hA (fun sz => c_X4_clearText l D sz y o245 a429 S429 tb245 (tqL 29).2.2.2.1 (tqL 29).2.2.2.2 (tqL 29).2.2.1 (tqL 29).1) (cwV 0 mts gL_texts_X4_clearText rfl rfl rfl (by decide +kernel) ⟨Nat.le_of_ble_eq_true rfl, Nat.le_of_ble_eq_true rfl⟩) (List.append_nil _).symm 0 wB_0 rfl rfl rfl rfl (Nat.le_of_ble_eq_true rfl) ⟨by show _ ≤ 5000; omega, by show _ ≤ 50000; omega⟩ dL_texts_448 (fun r448 u448 hu448 => ?_)
                rw [List.nil_append, List.append_nil]
                have hT448 : Tie tX4 S429 := tie_text hT429 (by decide) hT429.2.2.2.2
                obtain rfl : r448 = iZ 90 := hu448.trans (congrArg iZ (tqL_len 29 (by decide)))
                show Gz pp l ee ({ frames := 10, cells := 5000, slots := 50000, locals := 186 } : Room) ss mm args below meth cd 2 (k2 + 1 + 1 + 0 + 0) (n2 + 6 + 6 + 0 + 0) Q (Zw D vwCl (va_A wst sz) ss (wC y o245 a429 S429 tb245 tX4)) 451 [(0, .ref (o245 0)), (1, .int (iZ x2))] [.int (iZ 90)]
                refine z_bipush mx mb dL_texts_451 (by decide +kernel) ?_
                refine z_icmp_ne (tgt := 503) mx mb (by decide) (by decide) dL_texts_453 (by decide) (fun c453 => absurd c453 (by decide)) (fun _ => ?_)
                refine z_aload_n mx mb dL_texts_456 rfl 0 rfl ?_
                refine z_callI (wa := []) (wc := (wC y o245 a429 S429 tb245 tX4)) (wb := []) (As := []) (rest := []) ⟨mx, mb, mml, mo, mts⟩ hK hA (fun sz => c_X4_clearText l D sz y o245 a429 S429 tb245 tX4.2.2.2.1 tX4.2.2.2.2 tX4.2.2.1 tX4.1) (cwV 0 mts gL_texts_X4_clearText rfl rfl rfl (by decide +kernel) ⟨Nat.le_of_ble_eq_true rfl, Nat.le_of_ble_eq_true rfl⟩) (List.append_nil _).symm 0 wB_0 rfl rfl rfl rfl (Nat.le_of_ble_eq_true rfl) ⟨by show _ ≤ 5000; omega, by show _ ≤ 50000; omega⟩ dL_texts_457 (fun r457 u457 hu457 => ?_)
                rw [List.nil_append, List.append_nil]
                have hT457 : Tie tX5 S429 := tie_text hT448 (by decide) hT448.2.2.2.2
                obtain rfl : r457 = iZ 0 := hu457.trans (congrArg iZ (show tX4.2.2.2.2 = 0 from rfl))
                show Gz pp l ee ({ frames := 10, cells := 5000, slots := 50000, locals := 186 } : Room) ss mm args below meth cd 2 (k2 + 1 + 1 + 0 + 0 + 0) (n2 + 6 + 6 + 0 + 0 + 0) Q (Zw D vwCl (va_A wst sz) ss (wC y o245 a429 S429 tb245 tX5)) 460 [(0, .ref (o245 0)), (1, .int (iZ x2))] [.int (iZ 0)]
                refine z_if_ne (tgt := 503) mx mb (by decide) dL_texts_460 (by decide) (fun c460 => absurd c460 (by decide)) (fun _ => ?_)
                refine z_aload_n mx mb dL_texts_463 rfl 0 rfl ?_
                refine z_callI (wa := []) (wc := (wC y o245 a429 S429 tb245 tX5)) (wb := []) (As := []) (rest := []) ⟨mx, mb, mml, mo, mts⟩ hK hA (fun sz => c_X4_parse_bad l D sz y o245 a429 S429 tb245 tX5.2.2.2.1 tX5.2.2.2.2 tX5.2.2.1 tX5.1 hT457.2.2.2.1 hT457.2.2.2.2 (by rw [tx_f5]; decide)) (cwV 0 mts gL_texts_X4_parse rfl rfl rfl (by decide +kernel) ⟨Nat.le_of_ble_eq_true rfl, Nat.le_of_ble_eq_true rfl⟩) (List.append_nil _).symm 0 wB_0 rfl rfl rfl rfl (Nat.le_of_ble_eq_true rfl) ⟨by show _ ≤ 5000; omega, by show _ ≤ 50000; omega⟩ dL_texts_464 (fun r464 u464 hu464 => ?_)
                rw [List.nil_append, List.append_nil]
                obtain rfl : r464 = iZ (-10) := hu464.trans (congrArg iZ (show -10 - fault tX5.2.2.2.1 tX5.2.2.2.2 = -10 from by rw [tx_f5]; rfl))
                show Gz pp l ee ({ frames := 10, cells := 5000, slots := 50000, locals := 186 } : Room) ss mm args below meth cd 2 (k2 + 1 + 1 + 0 + 0 + 0 + 0) (n2 + 6 + 6 + 0 + 0 + 0 + 0) Q (Zw D vwCl (va_A wst sz) ss (wC y o245 a429 S429 tb245 tX5)) 467 [(0, .ref (o245 0)), (1, .int (iZ x2))] [.int (iZ (-10))]
                refine z_bipush mx mb dL_texts_467 (by decide +kernel) ?_
                refine z_icmp_ne (tgt := 503) mx mb (by decide) (by decide) dL_texts_469 (by decide) (fun c469 => absurd c469 (by decide)) (fun _ => ?_)
                refine z_aload_n mx mb dL_texts_472 rfl 0 rfl ?_
                refine z_callSI (wa := []) (wc := (wC y o245 a429 S429 tb245 tX5)) (wb := []) (As := [.ref (o245 0)]) (rest := []) ⟨mx, mb, mml, mo, mts⟩ hK hA hE (fun sz => c_L_undoing l hl0 D sz y o245 a429 S429 tb245 tX5   hT457) (vx_cwSW 1 mts gL_texts_L_undoing rfl rfl rfl (by decide +kernel) ⟨Nat.le_of_ble_eq_true rfl, Nat.le_of_ble_eq_true rfl⟩) (List.append_nil _).symm rfl rfl (Nat.le_of_ble_eq_true rfl) ⟨by show _ ≤ 5000; omega, by show _ ≤ 50000; omega⟩ dL_texts_473 (fun r473 u473 hu473 => ?_)
                rw [List.nil_append, List.append_nil]
                obtain ⟨a473, S473⟩ := u473
                obtain ⟨hr, hT473⟩ := hu473
                replace hT473 : Tie (undS tX5) S473 := hT473
                obtain rfl : r473 = iZ 0 := hr.trans (congrArg iZ ((und_n (st := tX5) (by rw [tx_s5]; decide)).1.trans (by rw [tx_s5]; rfl)))
                show Gz pp l ee ({ frames := 10, cells := 5000, slots := 50000, locals := 186 } : Room) ss mm args below meth cd 2 (k2 + 1 + 1 + 0 + 0 + 0 + 0 + 1) (n2 + 6 + 6 + 0 + 0 + 0 + 0 + 6) Q (Zw D vwCl (va_A wst sz) ss (wC y o245 a473 S473 tb245 (undS tX5))) 476 [(0, .ref (o245 0)), (1, .int (iZ x2))] [.int (iZ 0)]
                rw [(und_n (st := tX5) (by rw [tx_s5]; decide)).2.trans (show undn tX5 = tX6 from rfl)]
                rw [(und_n (st := tX5) (by rw [tx_s5]; decide)).2.trans (show undn tX5 = tX6 from rfl)] at hT473
                refine z_if_ne (tgt := 503) mx mb (by decide) dL_texts_476 (by decide) (fun c476 => absurd c476 (by decide)) (fun _ => ?_)
                refine z_aload_n mx mb dL_texts_479 rfl 0 rfl ?_
                refine z_iconst mx mb dL_texts_480 ?_
                refine z_callSI (wa := []) (wc := (wC y o245 a473 S473 tb245 tX6)) (wb := []) (As := [.ref (o245 0), .int (iZ 0)]) (rest := []) ⟨mx, mb, mml, mo, mts⟩ hK hA hE (fun sz => c_L_all l hl0 D sz y o245 a473 S473 tb245 tX6 0 (by decide) hT473) (vx_cwSW 2 mts gL_texts_L_all rfl rfl rfl (by decide +kernel) ⟨Nat.le_of_ble_eq_true rfl, Nat.le_of_ble_eq_true rfl⟩) (List.append_nil _).symm rfl rfl (Nat.le_of_ble_eq_true rfl) ⟨by show _ ≤ 5000; omega, by show _ ≤ 50000; omega⟩ dL_texts_481 (fun r481 u481 hu481 => ?_)
                rw [List.nil_append, List.append_nil]
                obtain ⟨a481, S481⟩ := u481
                obtain ⟨hr, hT481⟩ := hu481
                replace hT481 : Tie tX6 S481 := hT481
                obtain rfl : r481 = iZ 14 := hr.trans (congrArg iZ tx_a481)
                show Gz pp l ee ({ frames := 10, cells := 5000, slots := 50000, locals := 186 } : Room) ss mm args below meth cd 2 (k2 + 1 + 1 + 0 + 0 + 0 + 0 + 1 + 1) (n2 + 6 + 6 + 0 + 0 + 0 + 0 + 6 + 6) Q (Zw D vwCl (va_A wst sz) ss (wC y o245 a481 S481 tb245 tX6)) 484 [(0, .ref (o245 0)), (1, .int (iZ x2))] [.int (iZ 14)]
                refine z_bipush mx mb dL_texts_484 (by decide +kernel) ?_
                refine z_icmp_ne (tgt := 503) mx mb (by decide) (by decide) dL_texts_486 (by decide) (fun c486 => absurd c486 (by decide)) (fun _ => ?_)
                refine z_aload_n mx mb dL_texts_489 rfl 0 rfl ?_
                refine z_callSI (wa := []) (wc := (wC y o245 a481 S481 tb245 tX6)) (wb := []) (As := [.ref (o245 0)]) (rest := []) ⟨mx, mb, mml, mo, mts⟩ hK hA hE (fun sz => c_L_undoing l hl0 D sz y o245 a481 S481 tb245 tX6   hT481) (vx_cwSW 1 mts gL_texts_L_undoing rfl rfl rfl (by decide +kernel) ⟨Nat.le_of_ble_eq_true rfl, Nat.le_of_ble_eq_true rfl⟩) (List.append_nil _).symm rfl rfl (Nat.le_of_ble_eq_true rfl) ⟨by show _ ≤ 5000; omega, by show _ ≤ 50000; omega⟩ dL_texts_490 (fun r490 u490 hu490 => ?_)
                rw [List.nil_append, List.append_nil]
                obtain ⟨a490, S490⟩ := u490
                obtain ⟨hr, hT490⟩ := hu490
                replace hT490 : Tie (undS tX6) S490 := hT490
                obtain rfl : r490 = iZ (-3003) := hr.trans (congrArg iZ (und_0 (st := tX6) tx_s6).1)
                show Gz pp l ee ({ frames := 10, cells := 5000, slots := 50000, locals := 186 } : Room) ss mm args below meth cd 2 (k2 + 1 + 1 + 0 + 0 + 0 + 0 + 1 + 1 + 1) (n2 + 6 + 6 + 0 + 0 + 0 + 0 + 6 + 6 + 6) Q (Zw D vwCl (va_A wst sz) ss (wC y o245 a490 S490 tb245 (undS tX6))) 493 [(0, .ref (o245 0)), (1, .int (iZ x2))] [.int (iZ (-3003))]
                rw [(und_0 (st := tX6) tx_s6).2]
                rw [(und_0 (st := tX6) tx_s6).2] at hT490
                refine z_sipush mx mb dL_texts_493 (by decide +kernel) ?_
                refine z_icmp_ne (tgt := 503) mx mb (by decide) (by decide) dL_texts_496 (by decide) (fun c496 => absurd c496 (by decide)) (fun _ => ?_)
                refine z_iconst mx mb dL_texts_499 ?_
                refine z_goto (tgt := 504) mx mb dL_texts_500 (by decide) ?_
                rw [← List.append_nil (wC y o245 a490 S490 tb245 tX6)]
                refine z_dropL ?_
                refine z_widen (k1 := 5000) (n1 := 50000) (by omega) (by omega) ?_
                rw [hQ]
                exact z_retZ mx mb mr mlk hK (by decide) () (by exact rfl) rfl dL_texts_504
              · skip
                have l8 := tqL_len i8 (by omega)
                refine z_aload_n mx mb dL_texts_395 rfl 0 rfl ?_
                refine z_bipush mx mb dL_texts_396 (by decide +kernel) ?_
                refine z_callSI (wa := []) (wc := (wC y o245 a10 S10 tb245 (tqL i8))) (wb := []) (As := [.ref (o245 0), .int (iZ 46)]) (rest := []) ⟨mx, mb, mml, mo, mts⟩ hK hA hE (fun sz => c_L_typing l hl0 D sz y o245 a10 S10 tb245 (tqL i8) 46 (by decide) h8T) (vx_cwSW 2 mts gL_texts_L_typing rfl rfl rfl (by decide +kernel) ⟨Nat.le_of_ble_eq_true rfl, Nat.le_of_ble_eq_true rfl⟩) (List.append_nil _).symm rfl rfl (Nat.le_of_ble_eq_true rfl) ⟨by show _ ≤ 5000; omega, by show _ ≤ 50000; omega⟩ dL_texts_398 (fun r398 u398 hu398 => ?_)
                rw [List.nil_append, List.append_nil]
                obtain ⟨a398, S398⟩ := u398
                obtain ⟨hr, hT398⟩ := hu398
                replace hT398 : Tie (typS (tqL i8) 46) S398 := hT398
                obtain rfl : r398 = iZ (62 + (i8 : Int)) := hr.trans (congrArg iZ ((typ_in (by decide) (by omega)).1.trans (by rw [l8]; omega)))
                show Gz pp l ee ({ frames := 10, cells := 5000, slots := 50000, locals := 186 } : Room) ss mm args below meth cd 2 (k2 + 1) (n2 + 6) Q (Zw D vwCl (va_A wst sz) ss (wC y o245 a398 S398 tb245 (typS (tqL i8) 46))) 401 [(0, .ref (o245 0)), (1, .int (iZ x2))] [.int (iZ (62 + (i8 : Int)))]
                rw [tqL_s i8]
                rw [tqL_s i8] at hT398
                refine z_iload_n mx mb dL_texts_401 rfl 1 rfl ?_
                refine z_icmp_eq (tgt := 407) mx mb (by omega) (by omega) dL_texts_402 (by decide) (fun c402 => ?_) (fun c402 => absurd c402 (by omega))
                refine z_iinc mx mb dL_texts_407 1 rfl (by decide) [(1, .int (iZ (x2 + 1))), (0, .ref (o245 0))] rfl ?_
                refine z_goto (tgt := 389) mx mb dL_texts_410 (by decide) ?_
                refine z_lv [1, 0] rfl ?_
                exact ih389 (i8 + 1) _ a398 S398 (k2 + 1) (n2 + 6) (by omega) (by omega) (by omega) (by omega) (by omega) (by exact hT398)
          refine z_lv [1, 0] rfl ?_
          exact lp389 _ 0 62 a377 S377 (k + 0 + 1 + 1 + 1 + 1 + 1 + 0 + 1 + 1) (n + 0 + 6 + 6 + 6 + 6 + 6 + 0 + 6 + 6) (Nat.lt_succ_self _) (by omega) (by rfl) (by omega) (by omega) (by exact hT377)
        · skip
          have l7 := tpL_len i7 (by omega)
          refine z_aload_n mx mb dL_texts_264 rfl 0 rfl ?_
          refine z_iload_n mx mb dL_texts_265 rfl 1 rfl ?_
          refine z_iconst mx mb dL_texts_266 ?_
          refine z_irem mx mb (by omega) (by omega) dL_texts_267 ?_
          refine z_if_ne (tgt := 276) mx mb (by omega) dL_texts_268 (by decide) (fun c268 => ?_) (fun c268 => ?_)
          · skip
            refine z_bipush mx mb dL_texts_276 (by decide +kernel) ?_
            refine z_callSI (wa := []) (wc := (wC y o245 a9 S9 tb245 (tpL i7))) (wb := []) (As := [.ref (o245 0), .int (iZ 46)]) (rest := []) ⟨mx, mb, mml, mo, mts⟩ hK hA hE (fun sz => c_L_typing l hl0 D sz y o245 a9 S9 tb245 (tpL i7) 46 (by decide) h7T) (vx_cwSW 2 mts gL_texts_L_typing rfl rfl rfl (by decide +kernel) ⟨Nat.le_of_ble_eq_true rfl, Nat.le_of_ble_eq_true rfl⟩) (List.append_nil _).symm rfl rfl (Nat.le_of_ble_eq_true rfl) ⟨by show _ ≤ 5000; omega, by show _ ≤ 50000; omega⟩ dL_texts_278 (fun r278 u278 hu278 => ?_)
            rw [List.nil_append, List.append_nil]
            obtain ⟨a278, S278⟩ := u278
            obtain ⟨hr, hT278⟩ := hu278
            replace hT278 : Tie (typS (tpL i7) 46) S278 := hT278
            obtain rfl : r278 = iZ (5 + (i7 : Int)) := hr.trans (congrArg iZ ((typ_in (by decide) (by omega)).1.trans (by rw [l7]; omega)))
            show Gz pp l ee ({ frames := 10, cells := 5000, slots := 50000, locals := 186 } : Room) ss mm args below meth cd 2 (k + 1) (n + 6) Q (Zw D vwCl (va_A wst sz) ss (wC y o245 a278 S278 tb245 (typS (tpL i7) 46))) 281 [(0, .ref (o245 0)), (1, .int (iZ x1))] [.int (iZ (5 + (i7 : Int)))]
            rw [tpL_odd (by rw [← h7e]; exact c268)]
            rw [tpL_odd (by rw [← h7e]; exact c268)] at hT278
            refine z_iconst mx mb dL_texts_281 ?_
            refine z_iload_n mx mb dL_texts_282 rfl 1 rfl ?_
            refine z_iadd mx mb dL_texts_283 ?_
            refine z_icmp_eq (tgt := 289) mx mb (by omega) (by omega) dL_texts_284 (by decide) (fun c284 => ?_) (fun c284 => absurd c284 (by omega))
            refine z_iinc mx mb dL_texts_289 1 rfl (by decide) [(1, .int (iZ (x1 + 1))), (0, .ref (o245 0))] rfl ?_
            refine z_goto (tgt := 258) mx mb dL_texts_292 (by decide) ?_
            refine z_lv [1, 0] rfl ?_
            exact ih258 (i7 + 1) _ a278 S278 (k + 1) (n + 6) (by omega) (by omega) (by omega) (by omega) (by omega) (by exact hT278)
          · skip
            refine z_bipush mx mb dL_texts_271 (by decide +kernel) ?_
            refine z_goto (tgt := 278) mx mb dL_texts_273 (by decide) ?_
            refine z_callSI (wa := []) (wc := (wC y o245 a9 S9 tb245 (tpL i7))) (wb := []) (As := [.ref (o245 0), .int (iZ 51)]) (rest := []) ⟨mx, mb, mml, mo, mts⟩ hK hA hE (fun sz => c_L_typing l hl0 D sz y o245 a9 S9 tb245 (tpL i7) 51 (by decide) h7T) (vx_cwSW 2 mts gL_texts_L_typing rfl rfl rfl (by decide +kernel) ⟨Nat.le_of_ble_eq_true rfl, Nat.le_of_ble_eq_true rfl⟩) (List.append_nil _).symm rfl rfl (Nat.le_of_ble_eq_true rfl) ⟨by show _ ≤ 5000; omega, by show _ ≤ 50000; omega⟩ dL_texts_278 (fun r278 u278 hu278 => ?_)
            rw [List.nil_append, List.append_nil]
            obtain ⟨a278, S278⟩ := u278
            obtain ⟨hr, hT278⟩ := hu278
            replace hT278 : Tie (typS (tpL i7) 51) S278 := hT278
            obtain rfl : r278 = iZ (5 + (i7 : Int)) := hr.trans (congrArg iZ ((typ_in (by decide) (by omega)).1.trans (by rw [l7]; omega)))
            show Gz pp l ee ({ frames := 10, cells := 5000, slots := 50000, locals := 186 } : Room) ss mm args below meth cd 2 (k + 1) (n + 6) Q (Zw D vwCl (va_A wst sz) ss (wC y o245 a278 S278 tb245 (typS (tpL i7) 51))) 281 [(0, .ref (o245 0)), (1, .int (iZ x1))] [.int (iZ (5 + (i7 : Int)))]
            rw [tpL_even (by rw [← h7e]; exact c268)]
            rw [tpL_even (by rw [← h7e]; exact c268)] at hT278
            refine z_iconst mx mb dL_texts_281 ?_
            refine z_iload_n mx mb dL_texts_282 rfl 1 rfl ?_
            refine z_iadd mx mb dL_texts_283 ?_
            refine z_icmp_eq (tgt := 289) mx mb (by omega) (by omega) dL_texts_284 (by decide) (fun c284 => ?_) (fun c284 => absurd c284 (by omega))
            refine z_iinc mx mb dL_texts_289 1 rfl (by decide) [(1, .int (iZ (x1 + 1))), (0, .ref (o245 0))] rfl ?_
            refine z_goto (tgt := 258) mx mb dL_texts_292 (by decide) ?_
            refine z_lv [1, 0] rfl ?_
            exact ih258 (i7 + 1) _ a278 S278 (k + 1) (n + 6) (by omega) (by omega) (by omega) (by omega) (by omega) (by exact hT278)
    refine z_lv [1, 0] rfl ?_
    exact lp258 _ 0 0 a253 S253 3504 35567 (Nat.lt_succ_self _) (by omega) (by rfl) (by decide) (by decide) (by exact hT253)
  subst hQ
  subst hw0
  exact hstart
