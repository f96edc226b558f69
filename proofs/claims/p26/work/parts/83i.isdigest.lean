set_option maxRecDepth 100000 in
set_option maxHeartbeats 8000000 in
theorem c_L_isDigest (l : Launch) (hl0 : l.stackTraces = false) (D : va_G) (sz : Nat) (y : Nat → ClassId) (o : Nat → Nat) (a : Nat → Nat → Nat) (S : Nat → Nat → Int → Int) (tb : Nat → Nat) (st : CSt) (tx sv : Int) (htx9 : tx = st.2.2.2.2) (hsv9 : sv = st.2.2.1) (hT : Tie st S) : Met l yL_isDigest wsL_isDigest ({ frames := 10, cells := 500, slots := 3000, locals := 183 } : Room) (zPe D vwCl (zT y) (wC y o a S tb st) sz [.ref (o 0), .int (iZ tx), .int (iZ sv)]) (va_Qi (fun (r : Int32) (u : (Nat → Nat → Nat) × (Nat → Nat → Int → Int)) => r = iZ 1 ∧ Tie st u.2) (zB D vwCl (zT y) (wC y o a S tb st) sz (fun u : (Nat → Nat → Nat) × (Nat → Nat → Int → Int) => wC y o u.1 u.2 tb st)) (va_A (wC y o a S tb st) sz)) 500 3000 (va_A (wC y o a S tb st) sz) := by
  refine z_headE (cc := cL_isDigest) (maxL := 3) (ret := (some .boolean)) [(0, .ref (o 0)), (1, .int (iZ tx)), (2, .int (iZ sv))] rfl (Nat.le_of_ble_eq_true rfl) (by decide +kernel) rfl ?_
  intro pp ee ss mm below meth cd mx mb mr mml mo mts mlk hK hname hsz hA hE
  generalize ([.ref (o 0), .int (iZ tx), .int (iZ sv)] : List Value).toArray = args at mts ⊢
  obtain ⟨wst, hw0⟩ : ∃ wst, wst = wC y o a S tb st := ⟨_, rfl⟩
  replace hE : zE (va_A wst sz) ss ss.heap := by rw [hw0]; exact hE
  replace hA : ∀ q, ss.heap.size ≤ q → va_A wst sz q := by rw [hw0]; exact hA
  obtain ⟨Q, hQ⟩ : ∃ Q, Q = MQ below (va_Qi (fun (r : Int32) (u : (Nat → Nat → Nat) × (Nat → Nat → Int → Int)) => r = iZ 1 ∧ Tie st u.2) (zB D vwCl (zT y) wst sz (fun u : (Nat → Nat → Nat) × (Nat → Nat → Int → Int) => wC y o u.1 u.2 tb st)) (va_A wst sz)) args ss 500 3000 (va_A wst sz) := ⟨_, rfl⟩
  have hstart : Gz pp l ee ({ frames := 10, cells := 500, slots := 3000, locals := 183 } : Room) ss mm args below meth cd 3 0 0 Q (Zw D vwCl (va_A wst sz) ss (wC y o a S tb st)) 0 [(0, .ref (o 0)), (1, .int (iZ tx)), (2, .int (iZ sv))] [] := by
    obtain ⟨⟨hR, hI, kp, lp⟩, hsc, hTS, hl, htx⟩ := id hT
    obtain ⟨hW, hN, hT9⟩ := (Inv_Jy hI).f
    have w0 := hW.1; have w1 := hW.2.1; have w2 := hW.2.2.1
    have n10 := hN.2.2.2.2.2.2.2
    refine z_aload_n mx mb dL_isDigest_0 rfl 0 rfl ?_
    refine z_ldc2 (z := 3581) mx mb mo (mts _ (List.mem_of_getElem? (i := 1) rfl)) (by decide +kernel) dL_isDigest_1 ?_
    refine z_iload_n mx mb dL_isDigest_4 rfl 1 rfl ?_
    refine z_i2lw mx mb dL_isDigest_5 ?_
    refine z_callPSl (As := [.long (lZ 3581), .long (lZ (wz tx))]) (rest := [.ref (o 0)]) ⟨mx, mb, mml, mo, mts⟩ hK zgw (c_L_mixed l D y 3581 (wz tx)) (cwS 2 mts gL_isDigest_L_mixed rfl rfl rfl (by decide +kernel) ⟨Nat.le_of_ble_eq_true rfl, Nat.le_of_ble_eq_true rfl⟩) (fun _ h9 => nomatch h9) rfl rfl (Nat.le_of_ble_eq_true rfl) ⟨Nat.le_of_ble_eq_true rfl, Nat.le_of_ble_eq_true rfl⟩ dL_isDigest_6 ?_
    refine z_callSEl (wa := []) (wc := (wC y o a S tb st)) (wb := []) (As := [.ref (o 0), .long (lZ (31 * 3581 + (wz tx)))]) (rest := []) ⟨mx, mb, mml, mo, mts⟩ hK hA hE (fun sz => c_L_from l hl0 D sz y o a S tb st (31 * 3581 + (wz tx)) hT) (cwS 2 mts gL_isDigest_L_from rfl rfl rfl (by decide +kernel) ⟨Nat.le_of_ble_eq_true rfl, Nat.le_of_ble_eq_true rfl⟩) (List.append_nil _).symm rfl rfl (Nat.le_of_ble_eq_true rfl) ⟨Nat.le_of_ble_eq_true rfl, Nat.le_of_ble_eq_true rfl⟩ dL_isDigest_9 (fun r9 u9 hu9 => ?_)
    rw [List.nil_append, List.append_nil]
    obtain ⟨a9, S9⟩ := u9
    obtain ⟨hr, hT9⟩ := hu9
    replace hT9 : Tie st S9 := hT9
    obtain rfl : r9 = lZ (fromH st.1 (31 * 3581 + (wz tx))) := hr
    show Gz pp l ee ({ frames := 10, cells := 500, slots := 3000, locals := 183 } : Room) ss mm args below meth cd 3 500 3000 Q (Zw D vwCl (va_A wst sz) ss (wC y o a9 S9 tb st)) 12 [(0, .ref (o 0)), (1, .int (iZ tx)), (2, .int (iZ sv))] [.long (lZ (fromH st.1 (31 * 3581 + (wz tx))))]
    refine z_iload_n mx mb dL_isDigest_12 rfl 2 rfl ?_
    refine z_i2lw mx mb dL_isDigest_13 ?_
    refine z_callPSl (As := [.long (lZ (fromH st.1 (31 * 3581 + (wz tx)))), .long (lZ (wz sv))]) (rest := []) ⟨mx, mb, mml, mo, mts⟩ hK zgw (c_L_mixed l D y (fromH st.1 (31 * 3581 + (wz tx))) (wz sv)) (cwS 2 mts gL_isDigest_L_mixed rfl rfl rfl (by decide +kernel) ⟨Nat.le_of_ble_eq_true rfl, Nat.le_of_ble_eq_true rfl⟩) (fun _ h9 => nomatch h9) rfl rfl (Nat.le_of_ble_eq_true rfl) ⟨Nat.le_of_ble_eq_true rfl, Nat.le_of_ble_eq_true rfl⟩ dL_isDigest_14 ?_
    refine z_aload_n mx mb dL_isDigest_17 rfl 0 rfl ?_
    refine z_callL (wa := []) (wc := (wC y o a9 S9 tb st)) (wb := []) (As := []) (rest := [.long (lZ (31 * (fromH st.1 (31 * 3581 + (wz tx))) + (wz sv)))]) ⟨mx, mb, mml, mo, mts⟩ hK hA (fun sz => c_X4_digest l D sz y o a9 S9 tb st.2.2.2.1 st.2.2.2.2 st.2.2.1 st.1 hT9.1.1 hT9.1.2.1 hT9.1.2.2.1) (cwV 0 mts gL_isDigest_X4_digest rfl rfl rfl (by decide +kernel) ⟨Nat.le_of_ble_eq_true rfl, Nat.le_of_ble_eq_true rfl⟩) (List.append_nil _).symm 0 wB_0 rfl rfl rfl rfl (Nat.le_of_ble_eq_true rfl) ⟨Nat.le_of_ble_eq_true rfl, Nat.le_of_ble_eq_true rfl⟩ dL_isDigest_18 (fun r18 u18 hu18 => ?_)
    rw [List.nil_append, List.append_nil]
    obtain ⟨hr, hv0⟩ := hu18
    have hT18 : Tie st u18 := tie_trial hT9 hv0
    obtain rfl : r18 = lZ (dg st.1 st.2.2.2.2 st.2.2.1) := hr
    show Gz pp l ee ({ frames := 10, cells := 500, slots := 3000, locals := 183 } : Room) ss mm args below meth cd 3 500 3000 Q (Zw D vwCl (va_A wst sz) ss (wC y o a9 u18 tb st)) 21 [(0, .ref (o 0)), (1, .int (iZ tx)), (2, .int (iZ sv))] [.long (lZ (dg st.1 st.2.2.2.2 st.2.2.1)), .long (lZ (31 * (fromH st.1 (31 * 3581 + (wz tx))) + (wz sv)))]
    refine z_lcmp0 mx mb (by rw [htx9, hsv9]; rfl) dL_isDigest_21 ?_
    refine z_if_ne (tgt := 29) mx mb (by decide) dL_isDigest_22 (by decide) (fun c22 => absurd c22 (by decide)) (fun _ => ?_)
    refine z_iconst mx mb dL_isDigest_25 ?_
    refine z_goto (tgt := 30) mx mb dL_isDigest_26 (by decide) ?_
    refine z_widen (k1 := 500) (n1 := 3000) (Nat.le_of_ble_eq_true rfl) (Nat.le_of_ble_eq_true rfl) ?_
    rw [hQ]
    exact z_retZ mx mb mr mlk hK (by decide) (a9, u18) (by exact ⟨rfl, hT18⟩) rfl dL_isDigest_30
  subst hQ
  subst hw0
  exact hstart
