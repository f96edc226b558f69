def parS (st : CSt) : CSt := savd st (parsed st.1 st.2.2.2.1 (st.2.2.2.2 / 2).toNat)
def tldV (st : CSt) : Int := if fault st.2.2.2.1 st.2.2.2.2 = -1 then st.2.2.2.2 / 2 else -10 - fault st.2.2.2.1 st.2.2.2.2
def typ3 (wa wb wc : Int) : CSt := typW wc 8 (typW wb 8 (typW wa 8 new0))
theorem typ3_keep (wa wb wc : Int) : (typ3 wa wb wc).1 = f1 ∧ (typ3 wa wb wc).2.2.1 = 0 := by
  have a := typW_keep wc 8 (typW wb 8 (typW wa 8 new0))
  have b := typW_keep wb 8 (typW wa 8 new0)
  have c := typW_keep wa 8 new0
  exact ⟨a.1.trans (b.1.trans c.1), a.2.2.1.trans (b.2.2.1.trans c.2.2.1)⟩
theorem tie_parse {st : CSt} {S S' : Nat → Nat → Int → Int} (h : Tie st S) (hf : fault st.2.2.2.1 st.2.2.2.2 = -1) (hg : Rel (parsed st.1 st.2.2.2.1 (st.2.2.2.2 / 2).toNat) (S' 0)) (hr : Rel st.1 (S' (2 + (if st.2.2.1 = 4 then 3 else st.2.2.1.toNat)))) (hs : ∀ j : Nat, j < (if st.2.2.1 = 4 then 3 else st.2.2.1.toNat) → S' (2 + j) = S (2 + j + (if st.2.2.1 = 4 then 1 else 0))) : Tie (parS st) S' := by
  obtain ⟨q1, q2, q3, q4, q5⟩ := fault_ok h.2.2.2.1 hf
  have e : 2 * (st.2.2.2.2 / 2).toNat = st.2.2.2.2.toNat := by omega
  exact tie_save h hg (ok_parse h.1.2 (by omega) (by rw [e]; exact q5) (by omega) (by rw [e]; exact q4)) hr hs
theorem und_0 {st : CSt} (h : st.2.2.1 = 0) : undV st = -3003 ∧ undS st = st := by
  have e0 : (if st.2.2.1 = 0 then (1 : Int) else 0) = 1 := if_pos h
  exact ⟨v3_1 e0, s3_n (by omega)⟩
theorem und_n {st : CSt} (h : st.2.2.1 ≠ 0) : undV st = st.2.2.1 - 1 ∧ undS st = undn st := by
  have e0 : (if st.2.2.1 = 0 then (1 : Int) else 0) = 0 := if_neg h
  exact ⟨v3_0 e0, s3_0 e0⟩
/-- a state saved and brought back -/
theorem und_par {st : CSt} (h : st.2.2.1 = 0) : (undn (parS st)).1 = st.1 ∧ (parS st).2.2.1 = 1 ∧ (undn (parS st)).2.2.1 = 0 ∧ (undn (parS st)).2.2.2 = st.2.2.2 := by
  obtain ⟨f, sv, sm, tx⟩ := st
  simp only at h
  subst h
  exact ⟨rfl, rfl, rfl, rfl⟩
theorem tld_rng {st : CSt} (hl : 0 ≤ st.2.2.2.2 ∧ st.2.2.2.2 ≤ 90) : -1 ≤ fault st.2.2.2.1 st.2.2.2.2 ∧ fault st.2.2.2.1 st.2.2.2.2 ≤ 90 := fault_rng hl

set_option maxRecDepth 100000 in
theorem in_L_told_X4 : ∀ w ∈ wsX40, w ∈ wsL_told := by decide +kernel
set_option maxRecDepth 100000 in
set_option maxHeartbeats 8000000 in
theorem c_L_told (l : Launch) (hl0 : l.stackTraces = false) (D : va_G) (sz : Nat) (y : Nat → ClassId) (wa wb wc : Int) (hwa : Wd wa) (hwb : Wd wb) (hwc : Wd wc) : Met l yL_told wsL_told ({ frames := 9, cells := 200, slots := 2000, locals := 157 } : Room) (zPe D vwCl (zT y) ([] : va_W) sz [.long (lZ wa), .long (lZ wb), .long (lZ wc)]) (va_Qi (fun (r : Int32) (_ : Unit) => r = iZ (tldV (typ3 wa wb wc))) (zB D vwCl (zT y) ([] : va_W) sz (fun _ : Unit => ([] : va_W))) (va_A ([] : va_W) sz)) 200 2000 (va_A ([] : va_W) sz) := by
  refine z_headE (cc := cL_told) (maxL := 10) (ret := (some .int)) [(0, .long (lZ wa)), (2, .long (lZ wb)), (4, .long (lZ wc))] rfl (Nat.le_of_ble_eq_true rfl) (by decide +kernel) rfl ?_
  intro pp ee ss mm below meth cd mx mb mr mml mo mts mlk hK hname hsz hA hE
  generalize ([.long (lZ wa), .long (lZ wb), .long (lZ wc)] : List Value).toArray = args at mts ⊢
  obtain ⟨wst, hw0⟩ : ∃ wst, wst = ([] : va_W) := ⟨_, rfl⟩
  replace hE : zE (va_A wst sz) ss ss.heap := by rw [hw0]; exact hE
  replace hA : ∀ q, ss.heap.size ≤ q → va_A wst sz q := by rw [hw0]; exact hA
  obtain ⟨Q, hQ⟩ : ∃ Q, Q = MQ below (va_Qi (fun (r : Int32) (_ : Unit) => r = iZ (tldV (typ3 wa wb wc))) (zB D vwCl (zT y) wst sz (fun _ : Unit => ([] : va_W))) (va_A wst sz)) args ss 200 2000 (va_A wst sz) := ⟨_, rfl⟩
  have hstart : Gz pp l ee ({ frames := 9, cells := 200, slots := 2000, locals := 157 } : Room) ss mm args below meth cd 10 0 0 Q (Zw D vwCl (va_A wst sz) ss ([] : va_W)) 0 [(0, .long (lZ wa)), (2, .long (lZ wb)), (4, .long (lZ wc))] [] := by
    refine z_new (ci := 4) (C := RX4) (T := TX4) (N := 5) mx mb mts (in_L_told_X4) tyX4_ok mo (mts _ (List.mem_of_getElem? (i := 1) rfl)) (mts _ (List.mem_of_getElem? (i := 2) rfl)) (mts _ (List.mem_of_getElem? (i := 3) rfl)) hK hA rfl [.null, .null, .null, .null, .int (iZ 0)] (by decide) (Nat.le_of_ble_eq_true rfl) (Nat.le_of_ble_eq_true rfl) dL_told_0 (fun q0 => ?_)
    show Gz pp l ee ({ frames := 9, cells := 200, slots := 2000, locals := 157 } : Room) ss mm args below meth cd 10 1 5 Q (Zw D vwCl (va_A wst sz) ss ([(q0, .inr (4, [.null, .null, .null, .null, .int (iZ 0)]))] : va_W)) 3 [(0, .long (lZ wa)), (2, .long (lZ wb)), (4, .long (lZ wc))] [.ref q0]
    refine z_dup mx mb dL_told_3 rfl ?_
    refine z_callCE (wa := []) (wc := ([(q0, .inr (4, [.null, .null, .null, .null, .int (iZ 0)]))] : va_W)) (wb := []) (As := []) (rest := [.ref q0]) ⟨mx, mb, mml, mo, mts⟩ hK hA hE (fun sz => c_X4_init l D sz y q0) (cwI 0 mts gL_told_X4_init rfl rfl rfl (mts _ (List.mem_of_getElem? (i := 3) rfl)) (mts _ (List.mem_of_getElem? (i := 4) rfl)) (mts _ (List.mem_of_getElem? (i := 5) rfl)) rfl (by decide +kernel) ⟨Nat.le_of_ble_eq_true rfl, Nat.le_of_ble_eq_true rfl⟩) (List.append_nil _).symm rfl rfl (Nat.le_of_ble_eq_true rfl) ⟨Nat.le_of_ble_eq_true rfl, Nat.le_of_ble_eq_true rfl⟩ dL_told_4 (fun u4 hu4 => ?_)
    rw [List.nil_append, List.append_nil]
    obtain ⟨o4, a4, S4, tb4⟩ := u4
    obtain ⟨h04, hR4⟩ := hu4
    replace h04 : o4 0 = q0 := h04
    subst h04
    have hT4 : Tie new0 S4 := tie_new hR4
    show Gz pp l ee ({ frames := 9, cells := 200, slots := 2000, locals := 157 } : Room) ss mm args below meth cd 10 96 1519 Q (Zw D vwCl (va_A wst sz) ss (wC y o4 a4 S4 tb4 new0)) 7 [(0, .long (lZ wa)), (2, .long (lZ wb)), (4, .long (lZ wc))] [.ref (o4 0)]
    refine z_astore mx mb dL_told_7 (by decide) [(6, .ref (o4 0)), (0, .long (lZ wa)), (2, .long (lZ wb)), (4, .long (lZ wc))] rfl ?_
    refine z_aload mx mb dL_told_9 0 rfl ?_
    refine z_lload_n mx mb dL_told_11 rfl 1 rfl ?_
    refine z_callSEv (wa := []) (wc := (wC y o4 a4 S4 tb4 new0)) (wb := []) (As := [.ref (o4 0), .long (lZ wa)]) (rest := []) ⟨mx, mb, mml, mo, mts⟩ hK hA hE (fun sz => c_L_types l hl0 D sz y o4 a4 S4 tb4 new0 wa hwa (by decide) hT4) (cwS 2 mts gL_told_L_types rfl rfl rfl (by decide +kernel) ⟨Nat.le_of_ble_eq_true rfl, Nat.le_of_ble_eq_true rfl⟩) (List.append_nil _).symm rfl rfl (Nat.le_of_ble_eq_true rfl) ⟨Nat.le_of_ble_eq_true rfl, Nat.le_of_ble_eq_true rfl⟩ dL_told_12 (fun u12 hu12 => ?_)
    rw [List.nil_append, List.append_nil]
    obtain ⟨a12, S12⟩ := u12
    have hT12 := hu12
    replace hT12 : Tie (typW wa 8 new0) S12 := hT12
    show Gz pp l ee ({ frames := 9, cells := 200, slots := 2000, locals := 157 } : Room) ss mm args below meth cd 10 104 1567 Q (Zw D vwCl (va_A wst sz) ss (wC y o4 a12 S12 tb4 (typW wa 8 new0))) 15 [(6, .ref (o4 0)), (0, .long (lZ wa)), (2, .long (lZ wb)), (4, .long (lZ wc))] []
    refine z_aload mx mb dL_told_15 0 rfl ?_
    refine z_lload_n mx mb dL_told_17 rfl 2 rfl ?_
    refine z_callSEv (wa := []) (wc := (wC y o4 a12 S12 tb4 (typW wa 8 new0))) (wb := []) (As := [.ref (o4 0), .long (lZ wb)]) (rest := []) ⟨mx, mb, mml, mo, mts⟩ hK hA hE (fun sz => c_L_types l hl0 D sz y o4 a12 S12 tb4 (typW wa 8 new0) wb hwb (by have q := (typW_keep wa 8 new0).2.2.2; have z : new0.2.2.2.2 = 0 := rfl; omega) hT12) (cwS 2 mts gL_told_L_types rfl rfl rfl (by decide +kernel) ⟨Nat.le_of_ble_eq_true rfl, Nat.le_of_ble_eq_true rfl⟩) (List.append_nil _).symm rfl rfl (Nat.le_of_ble_eq_true rfl) ⟨Nat.le_of_ble_eq_true rfl, Nat.le_of_ble_eq_true rfl⟩ dL_told_18 (fun u18 hu18 => ?_)
    rw [List.nil_append, List.append_nil]
    obtain ⟨a18, S18⟩ := u18
    have hT18 := hu18
    replace hT18 : Tie (typW wb 8 (typW wa 8 new0)) S18 := hT18
    show Gz pp l ee ({ frames := 9, cells := 200, slots := 2000, locals := 157 } : Room) ss mm args below meth cd 10 112 1615 Q (Zw D vwCl (va_A wst sz) ss (wC y o4 a18 S18 tb4 (typW wb 8 (typW wa 8 new0)))) 21 [(6, .ref (o4 0)), (0, .long (lZ wa)), (2, .long (lZ wb)), (4, .long (lZ wc))] []
    refine z_aload mx mb dL_told_21 0 rfl ?_
    refine z_lload mx mb dL_told_23 3 rfl ?_
    refine z_callSEv (wa := []) (wc := (wC y o4 a18 S18 tb4 (typW wb 8 (typW wa 8 new0)))) (wb := []) (As := [.ref (o4 0), .long (lZ wc)]) (rest := []) ⟨mx, mb, mml, mo, mts⟩ hK hA hE (fun sz => c_L_types l hl0 D sz y o4 a18 S18 tb4 (typW wb 8 (typW wa 8 new0)) wc hwc (by have q := (typW_keep wa 8 new0).2.2.2; have q2 := (typW_keep wb 8 (typW wa 8 new0)).2.2.2; have z : new0.2.2.2.2 = 0 := rfl; omega) hT18) (cwS 2 mts gL_told_L_types rfl rfl rfl (by decide +kernel) ⟨Nat.le_of_ble_eq_true rfl, Nat.le_of_ble_eq_true rfl⟩) (List.append_nil _).symm rfl rfl (Nat.le_of_ble_eq_true rfl) ⟨Nat.le_of_ble_eq_true rfl, Nat.le_of_ble_eq_true rfl⟩ dL_told_25 (fun u25 hu25 => ?_)
    rw [List.nil_append, List.append_nil]
    obtain ⟨a25, S25⟩ := u25
    have hT25 := hu25
    replace hT25 : Tie (typW wc 8 (typW wb 8 (typW wa 8 new0))) S25 := hT25
    show Gz pp l ee ({ frames := 9, cells := 200, slots := 2000, locals := 157 } : Room) ss mm args below meth cd 10 120 1663 Q (Zw D vwCl (va_A wst sz) ss (wC y o4 a25 S25 tb4 (typW wc 8 (typW wb 8 (typW wa 8 new0))))) 28 [(6, .ref (o4 0)), (0, .long (lZ wa)), (2, .long (lZ wb)), (4, .long (lZ wc))] []
    have hT3 : Tie (typ3 wa wb wc) S25 := hT25
    obtain ⟨t31, t32⟩ := typ3_keep wa wb wc
    have tl3 := hT3.2.2.2.1
    have fr3 := tld_rng tl3
    show Gz pp l ee ({ frames := 9, cells := 200, slots := 2000, locals := 157 } : Room) ss mm args below meth cd 10 120 1663 Q (Zw D vwCl (va_A wst sz) ss (wC y o4 a25 S25 tb4 (typ3 wa wb wc))) 28 [(6, .ref (o4 0)), (0, .long (lZ wa)), (2, .long (lZ wb)), (4, .long (lZ wc))] []
    refine z_aload mx mb dL_told_28 0 rfl ?_
    refine z_callL (wa := []) (wc := (wC y o4 a25 S25 tb4 (typ3 wa wb wc))) (wb := []) (As := []) (rest := []) ⟨mx, mb, mml, mo, mts⟩ hK hA (fun sz => c_X4_digest l D sz y o4 a25 S25 tb4 (typ3 wa wb wc).2.2.2.1 (typ3 wa wb wc).2.2.2.2 (typ3 wa wb wc).2.2.1 (typ3 wa wb wc).1 hT3.1.1 hT3.1.2.1 hT3.1.2.2.1) (cwV 0 mts gL_told_X4_digest rfl rfl rfl (by decide +kernel) ⟨Nat.le_of_ble_eq_true rfl, Nat.le_of_ble_eq_true rfl⟩) (List.append_nil _).symm 0 wB_0 rfl rfl rfl rfl (Nat.le_of_ble_eq_true rfl) ⟨Nat.le_of_ble_eq_true rfl, Nat.le_of_ble_eq_true rfl⟩ dL_told_30 (fun r30 u30 hu30 => ?_)
    rw [List.nil_append, List.append_nil]
    obtain ⟨hr, hv0⟩ := hu30
    have hT30 : Tie (typ3 wa wb wc) u30 := tie_trial hT3 hv0
    obtain rfl : r30 = lZ (dg (typ3 wa wb wc).1 (typ3 wa wb wc).2.2.2.2 (typ3 wa wb wc).2.2.1) := hr
    show Gz pp l ee ({ frames := 9, cells := 200, slots := 2000, locals := 157 } : Room) ss mm args below meth cd 10 120 1663 Q (Zw D vwCl (va_A wst sz) ss (wC y o4 a25 u30 tb4 (typ3 wa wb wc))) 33 [(6, .ref (o4 0)), (0, .long (lZ wa)), (2, .long (lZ wb)), (4, .long (lZ wc))] [.long (lZ (dg (typ3 wa wb wc).1 (typ3 wa wb wc).2.2.2.2 (typ3 wa wb wc).2.2.1))]
    refine z_lstore mx mb dL_told_33 (by decide) [(7, .long (lZ (dg (typ3 wa wb wc).1 (typ3 wa wb wc).2.2.2.2 (typ3 wa wb wc).2.2.1))), (6, .ref (o4 0)), (0, .long (lZ wa)), (2, .long (lZ wb)), (4, .long (lZ wc))] rfl ?_
    refine z_aload mx mb dL_told_35 1 rfl ?_
    by_cases hf : fault (typ3 wa wb wc).2.2.2.1 (typ3 wa wb wc).2.2.2.2 = -1
    · skip
      refine z_callI (wa := []) (wc := (wC y o4 a25 u30 tb4 (typ3 wa wb wc))) (wb := []) (As := []) (rest := []) ⟨mx, mb, mml, mo, mts⟩ hK hA (fun sz => c_X4_parse l D sz y o4 a25 u30 tb4 (typ3 wa wb wc).2.2.2.1 (typ3 wa wb wc).2.2.2.2 (typ3 wa wb wc).2.2.1 (typ3 wa wb wc).1 hT30.1.1 hT30.1.2.1 hT30.1.2.2.1 hT30.2.1 hT30.2.2.2.1 hT30.2.2.2.2 hf) (cwV 0 mts gL_told_X4_parse rfl rfl rfl (by decide +kernel) ⟨Nat.le_of_ble_eq_true rfl, Nat.le_of_ble_eq_true rfl⟩) (List.append_nil _).symm 0 wB_0 rfl rfl rfl rfl (Nat.le_of_ble_eq_true rfl) ⟨Nat.le_of_ble_eq_true rfl, Nat.le_of_ble_eq_true rfl⟩ dL_told_37 (fun r37 u37 hu37 => ?_)
      rw [List.nil_append, List.append_nil]
      obtain ⟨a37, S37⟩ := u37
      obtain ⟨hr, hv0, hv1, hv2, hv3, hv4⟩ := hu37
      have hT37 : Tie (parS (typ3 wa wb wc)) S37 := tie_parse hT30 hf hv2 hv3 hv4
      obtain rfl : r37 = iZ ((typ3 wa wb wc).2.2.2.2 / 2) := hr
      show Gz pp l ee ({ frames := 9, cells := 200, slots := 2000, locals := 157 } : Room) ss mm args below meth cd 10 120 1663 Q (Zw D vwCl (va_A wst sz) ss (wC y o4 a37 S37 tb4 (parS (typ3 wa wb wc)))) 40 [(7, .long (lZ (dg (typ3 wa wb wc).1 (typ3 wa wb wc).2.2.2.2 (typ3 wa wb wc).2.2.1))), (6, .ref (o4 0)), (0, .long (lZ wa)), (2, .long (lZ wb)), (4, .long (lZ wc))] [.int (iZ ((typ3 wa wb wc).2.2.2.2 / 2))]
      refine z_istore mx mb dL_told_40 (by decide) [(9, .int (iZ ((typ3 wa wb wc).2.2.2.2 / 2))), (7, .long (lZ (dg (typ3 wa wb wc).1 (typ3 wa wb wc).2.2.2.2 (typ3 wa wb wc).2.2.1))), (6, .ref (o4 0)), (0, .long (lZ wa)), (2, .long (lZ wb)), (4, .long (lZ wc))] rfl ?_
      refine z_iload mx mb dL_told_42 0 rfl ?_
      refine z_if_ge (tgt := 78) mx mb (by omega) dL_told_44 (by decide) (fun c44 => ?_) (fun c44 => absurd c44 (by omega))
      refine z_aload mx mb dL_told_78 2 rfl ?_
      refine z_callSI (wa := []) (wc := (wC y o4 a37 S37 tb4 (parS (typ3 wa wb wc)))) (wb := []) (As := [.ref (o4 0)]) (rest := []) ⟨mx, mb, mml, mo, mts⟩ hK hA hE (fun sz => c_L_undoing l hl0 D sz y o4 a37 S37 tb4 (parS (typ3 wa wb wc))   hT37) (vx_cwSW 1 mts gL_told_L_undoing rfl rfl rfl (by decide +kernel) ⟨Nat.le_of_ble_eq_true rfl, Nat.le_of_ble_eq_true rfl⟩) (List.append_nil _).symm rfl rfl (Nat.le_of_ble_eq_true rfl) ⟨Nat.le_of_ble_eq_true rfl, Nat.le_of_ble_eq_true rfl⟩ dL_told_80 (fun r80 u80 hu80 => ?_)
      rw [List.nil_append, List.append_nil]
      obtain ⟨a80, S80⟩ := u80
      obtain ⟨hr, hT80⟩ := hu80
      replace hT80 : Tie (undS (parS (typ3 wa wb wc))) S80 := hT80
      obtain rfl : r80 = iZ 0 := hr.trans (congrArg iZ ((und_n (st := parS (typ3 wa wb wc)) (by rw [(und_par t32).2.1]; decide)).1.trans (by rw [(und_par t32).2.1]; rfl)))
      show Gz pp l ee ({ frames := 9, cells := 200, slots := 2000, locals := 157 } : Room) ss mm args below meth cd 10 121 1669 Q (Zw D vwCl (va_A wst sz) ss (wC y o4 a80 S80 tb4 (undS (parS (typ3 wa wb wc))))) 83 [(9, .int (iZ ((typ3 wa wb wc).2.2.2.2 / 2))), (7, .long (lZ (dg (typ3 wa wb wc).1 (typ3 wa wb wc).2.2.2.2 (typ3 wa wb wc).2.2.1))), (6, .ref (o4 0)), (0, .long (lZ wa)), (2, .long (lZ wb)), (4, .long (lZ wc))] [.int (iZ 0)]
      rw [(und_n (st := parS (typ3 wa wb wc)) (by rw [(und_par t32).2.1]; decide)).2]
      rw [(und_n (st := parS (typ3 wa wb wc)) (by rw [(und_par t32).2.1]; decide)).2] at hT80
      refine z_if_ne (tgt := 102) mx mb (by decide) dL_told_83 (by decide) (fun c83 => absurd c83 (by decide)) (fun _ => ?_)
      refine z_aload mx mb dL_told_86 2 rfl ?_
      refine z_callL (wa := []) (wc := (wC y o4 a80 S80 tb4 (undn (parS (typ3 wa wb wc))))) (wb := []) (As := []) (rest := []) ⟨mx, mb, mml, mo, mts⟩ hK hA (fun sz => c_X4_digest l D sz y o4 a80 S80 tb4 (undn (parS (typ3 wa wb wc))).2.2.2.1 (undn (parS (typ3 wa wb wc))).2.2.2.2 (undn (parS (typ3 wa wb wc))).2.2.1 (undn (parS (typ3 wa wb wc))).1 hT80.1.1 hT80.1.2.1 hT80.1.2.2.1) (cwV 0 mts gL_told_X4_digest rfl rfl rfl (by decide +kernel) ⟨Nat.le_of_ble_eq_true rfl, Nat.le_of_ble_eq_true rfl⟩) (List.append_nil _).symm 0 wB_0 rfl rfl rfl rfl (Nat.le_of_ble_eq_true rfl) ⟨Nat.le_of_ble_eq_true rfl, Nat.le_of_ble_eq_true rfl⟩ dL_told_88 (fun r88 u88 hu88 => ?_)
      rw [List.nil_append, List.append_nil]
      obtain ⟨hr, hv0⟩ := hu88
      have hT88 : Tie (undn (parS (typ3 wa wb wc))) u88 := tie_trial hT80 hv0
      obtain rfl : r88 = lZ (dg (undn (parS (typ3 wa wb wc))).1 (undn (parS (typ3 wa wb wc))).2.2.2.2 (undn (parS (typ3 wa wb wc))).2.2.1) := hr
      show Gz pp l ee ({ frames := 9, cells := 200, slots := 2000, locals := 157 } : Room) ss mm args below meth cd 10 121 1669 Q (Zw D vwCl (va_A wst sz) ss (wC y o4 a80 u88 tb4 (undn (parS (typ3 wa wb wc))))) 91 [(9, .int (iZ ((typ3 wa wb wc).2.2.2.2 / 2))), (7, .long (lZ (dg (typ3 wa wb wc).1 (typ3 wa wb wc).2.2.2.2 (typ3 wa wb wc).2.2.1))), (6, .ref (o4 0)), (0, .long (lZ wa)), (2, .long (lZ wb)), (4, .long (lZ wc))] [.long (lZ (dg (undn (parS (typ3 wa wb wc))).1 (undn (parS (typ3 wa wb wc))).2.2.2.2 (undn (parS (typ3 wa wb wc))).2.2.1))]
      refine z_lload mx mb dL_told_91 1 rfl ?_
      refine z_lcmp0 mx mb (by rw [(und_par t32).1, (und_par t32).2.2.1, (und_par t32).2.2.2, t32]) dL_told_93 ?_
      refine z_if_ne (tgt := 102) mx mb (by decide) dL_told_94 (by decide) (fun c94 => absurd c94 (by decide)) (fun _ => ?_)
      refine z_iload mx mb dL_told_97 0 rfl ?_
      refine z_goto (tgt := 105) mx mb dL_told_99 (by decide) ?_
      rw [← List.append_nil (wC y o4 a80 u88 tb4 (undn (parS (typ3 wa wb wc))))]
      refine z_dropL ?_
      refine z_widen (k1 := 200) (n1 := 2000) (Nat.le_of_ble_eq_true rfl) (Nat.le_of_ble_eq_true rfl) ?_
      rw [hQ]
      exact z_retI mx mb mr mlk hK () (by exact (by unfold tldV; rw [if_pos hf])) rfl dL_told_105
    · skip
      refine z_callI (wa := []) (wc := (wC y o4 a25 u30 tb4 (typ3 wa wb wc))) (wb := []) (As := []) (rest := []) ⟨mx, mb, mml, mo, mts⟩ hK hA (fun sz => c_X4_parse_bad l D sz y o4 a25 u30 tb4 (typ3 wa wb wc).2.2.2.1 (typ3 wa wb wc).2.2.2.2 (typ3 wa wb wc).2.2.1 (typ3 wa wb wc).1 hT30.2.2.2.1 hT30.2.2.2.2 hf) (cwV 0 mts gL_told_X4_parse rfl rfl rfl (by decide +kernel) ⟨Nat.le_of_ble_eq_true rfl, Nat.le_of_ble_eq_true rfl⟩) (List.append_nil _).symm 0 wB_0 rfl rfl rfl rfl (Nat.le_of_ble_eq_true rfl) ⟨Nat.le_of_ble_eq_true rfl, Nat.le_of_ble_eq_true rfl⟩ dL_told_37 (fun r37 u37 hu37 => ?_)
      rw [List.nil_append, List.append_nil]
      obtain rfl : r37 = iZ (-10 - fault (typ3 wa wb wc).2.2.2.1 (typ3 wa wb wc).2.2.2.2) := hu37
      show Gz pp l ee ({ frames := 9, cells := 200, slots := 2000, locals := 157 } : Room) ss mm args below meth cd 10 120 1663 Q (Zw D vwCl (va_A wst sz) ss (wC y o4 a25 u30 tb4 (typ3 wa wb wc))) 40 [(7, .long (lZ (dg (typ3 wa wb wc).1 (typ3 wa wb wc).2.2.2.2 (typ3 wa wb wc).2.2.1))), (6, .ref (o4 0)), (0, .long (lZ wa)), (2, .long (lZ wb)), (4, .long (lZ wc))] [.int (iZ (-10 - fault (typ3 wa wb wc).2.2.2.1 (typ3 wa wb wc).2.2.2.2))]
      refine z_istore mx mb dL_told_40 (by decide) [(9, .int (iZ (-10 - fault (typ3 wa wb wc).2.2.2.1 (typ3 wa wb wc).2.2.2.2))), (7, .long (lZ (dg (typ3 wa wb wc).1 (typ3 wa wb wc).2.2.2.2 (typ3 wa wb wc).2.2.1))), (6, .ref (o4 0)), (0, .long (lZ wa)), (2, .long (lZ wb)), (4, .long (lZ wc))] rfl ?_
      refine z_iload mx mb dL_told_42 0 rfl ?_
      refine z_if_ge (tgt := 78) mx mb (by omega) dL_told_44 (by decide) (fun c44 => absurd c44 (by omega)) (fun c44 => ?_)
      refine z_aload mx mb dL_told_47 2 rfl ?_
      refine z_callL (wa := []) (wc := (wC y o4 a25 u30 tb4 (typ3 wa wb wc))) (wb := []) (As := []) (rest := []) ⟨mx, mb, mml, mo, mts⟩ hK hA (fun sz => c_X4_digest l D sz y o4 a25 u30 tb4 (typ3 wa wb wc).2.2.2.1 (typ3 wa wb wc).2.2.2.2 (typ3 wa wb wc).2.2.1 (typ3 wa wb wc).1 hT30.1.1 hT30.1.2.1 hT30.1.2.2.1) (cwV 0 mts gL_told_X4_digest rfl rfl rfl (by decide +kernel) ⟨Nat.le_of_ble_eq_true rfl, Nat.le_of_ble_eq_true rfl⟩) (List.append_nil _).symm 0 wB_0 rfl rfl rfl rfl (Nat.le_of_ble_eq_true rfl) ⟨Nat.le_of_ble_eq_true rfl, Nat.le_of_ble_eq_true rfl⟩ dL_told_49 (fun r49 u49 hu49 => ?_)
      rw [List.nil_append, List.append_nil]
      obtain ⟨hr, hv0⟩ := hu49
      have hT49 : Tie (typ3 wa wb wc) u49 := tie_trial hT30 hv0
      obtain rfl : r49 = lZ (dg (typ3 wa wb wc).1 (typ3 wa wb wc).2.2.2.2 (typ3 wa wb wc).2.2.1) := hr
      show Gz pp l ee ({ frames := 9, cells := 200, slots := 2000, locals := 157 } : Room) ss mm args below meth cd 10 120 1663 Q (Zw D vwCl (va_A wst sz) ss (wC y o4 a25 u49 tb4 (typ3 wa wb wc))) 52 [(9, .int (iZ (-10 - fault (typ3 wa wb wc).2.2.2.1 (typ3 wa wb wc).2.2.2.2))), (7, .long (lZ (dg (typ3 wa wb wc).1 (typ3 wa wb wc).2.2.2.2 (typ3 wa wb wc).2.2.1))), (6, .ref (o4 0)), (0, .long (lZ wa)), (2, .long (lZ wb)), (4, .long (lZ wc))] [.long (lZ (dg (typ3 wa wb wc).1 (typ3 wa wb wc).2.2.2.2 (typ3 wa wb wc).2.2.1))]
      refine z_lload mx mb dL_told_52 1 rfl ?_
      refine z_lcmp0 mx mb (by rfl) dL_told_54 ?_
      refine z_if_ne (tgt := 74) mx mb (by decide) dL_told_55 (by decide) (fun c55 => absurd c55 (by decide)) (fun _ => ?_)
      refine z_aload mx mb dL_told_58 2 rfl ?_
      refine z_callSI (wa := []) (wc := (wC y o4 a25 u49 tb4 (typ3 wa wb wc))) (wb := []) (As := [.ref (o4 0)]) (rest := []) ⟨mx, mb, mml, mo, mts⟩ hK hA hE (fun sz => c_L_undoing l hl0 D sz y o4 a25 u49 tb4 (typ3 wa wb wc)   hT49) (vx_cwSW 1 mts gL_told_L_undoing rfl rfl rfl (by decide +kernel) ⟨Nat.le_of_ble_eq_true rfl, Nat.le_of_ble_eq_true rfl⟩) (List.append_nil _).symm rfl rfl (Nat.le_of_ble_eq_true rfl) ⟨Nat.le_of_ble_eq_true rfl, Nat.le_of_ble_eq_true rfl⟩ dL_told_60 (fun r60 u60 hu60 => ?_)
      rw [List.nil_append, List.append_nil]
      obtain ⟨a60, S60⟩ := u60
      obtain ⟨hr, hT60⟩ := hu60
      replace hT60 : Tie (undS (typ3 wa wb wc)) S60 := hT60
      obtain rfl : r60 = iZ (-3003) := hr.trans (congrArg iZ (und_0 t32).1)
      show Gz pp l ee ({ frames := 9, cells := 200, slots := 2000, locals := 157 } : Room) ss mm args below meth cd 10 121 1669 Q (Zw D vwCl (va_A wst sz) ss (wC y o4 a60 S60 tb4 (undS (typ3 wa wb wc)))) 63 [(9, .int (iZ (-10 - fault (typ3 wa wb wc).2.2.2.1 (typ3 wa wb wc).2.2.2.2))), (7, .long (lZ (dg (typ3 wa wb wc).1 (typ3 wa wb wc).2.2.2.2 (typ3 wa wb wc).2.2.1))), (6, .ref (o4 0)), (0, .long (lZ wa)), (2, .long (lZ wb)), (4, .long (lZ wc))] [.int (iZ (-3003))]
      rw [(und_0 t32).2]
      rw [(und_0 t32).2] at hT60
      refine z_sipush mx mb dL_told_63 (by decide +kernel) ?_
      refine z_icmp_ne (tgt := 74) mx mb (by decide) (by decide) dL_told_66 (by decide) (fun c66 => absurd c66 (by decide)) (fun _ => ?_)
      refine z_iload mx mb dL_told_69 0 rfl ?_
      refine z_goto (tgt := 77) mx mb dL_told_71 (by decide) ?_
      rw [← List.append_nil (wC y o4 a60 S60 tb4 (typ3 wa wb wc))]
      refine z_dropL ?_
      refine z_widen (k1 := 200) (n1 := 2000) (Nat.le_of_ble_eq_true rfl) (Nat.le_of_ble_eq_true rfl) ?_
      rw [hQ]
      exact z_retI mx mb mr mlk hK () (by exact (by unfold tldV; rw [if_neg hf])) rfl dL_told_77
  subst hQ
  subst hw0
  exact hstart
