theorem in_X5_thrown_X5 : ∀ w ∈ wsX50, w ∈ wsX5_thrown := by decide +kernel
set_option maxRecDepth 100000 in
set_option maxHeartbeats 4000000 in
theorem c_X5_thrown (l : Launch) (D : va_G) (y : Nat → ClassId) (a : Nat → Nat) (f sv ai tx : Int → Int) (sm ln th hh : Int)  : Met l yX5_thrown wsX5_thrown ({ frames := 0, cells := 0, slots := 0, locals := 0 } : Room) (zPp D vwCl (zT y) (wM y a f sv ai tx sm ln th hh) [.ref (a 0)]) (vp_Si (fun r => r = iZ th)) 0 0 (fun _ => False) := by
  refine z_headP (cc := cX5_thrown) (maxL := 1) (ret := (some .int)) [(0, .ref (a 0))] rfl (Nat.le_of_ble_eq_true rfl) (by decide +kernel) rfl ?_
  intro pp ee ss mm below meth cd mx mb mr mml mo mts mlk hK hP
  generalize ([.ref (a 0)] : List Value).toArray = args at mts ⊢
  obtain ⟨Q, hQ⟩ : ∃ Q, Q = MQ below (vp_Si (fun r => r = iZ th)) args ss 0 0 (fun _ => False) := ⟨_, rfl⟩
  rw [← hQ]
  refine z_aload_n mx mb dX5_thrown_0 rfl 0 rfl ?_
  refine z_get (C := RX5) (T := TX5) (N := 8) mx mb mts (in_X5_thrown_X5) mo hK (zgp hP) 0 wM_0 rfl 6 (by decide) (mts _ (List.mem_of_getElem? (i := 1) rfl)) (fun _ h9 => h9) rfl dX5_thrown_1 ?_
  rw [hQ]
  exact z_retP mx mb mr mlk (by rfl) dX5_thrown_4

theorem in_X5_addTrain_X5 : ∀ w ∈ wsX50, w ∈ wsX5_addTrain := by decide +kernel
set_option maxRecDepth 100000 in
set_option maxHeartbeats 4000000 in
theorem c_X5_addTrain (l : Launch) (D : va_G) (sz : Nat) (y : Nat → ClassId) (a : Nat → Nat) (f sv ai tx : Int → Int) (sm ln th hh : Int) (b : Int) (hb : -2147483648 ≤ b ∧ b ≤ 2147483647) (hI : Inv 100000 f) (hs : 0 ≤ sm ∧ sm ≤ 4) : Met l yX5_addTrain wsX5_addTrain ({ frames := 3, cells := 0, slots := 0, locals := 70 } : Room) (zPw D vwCl (zT y) (wM y a f sv ai tx sm ln th hh) sz [.ref (a 0), .int (iZ b)]) (va_Qi (fun (r : Int32) (_ : Unit) => r = iZ (if thAdd f b = 0 then f 2 else 0)) (zB D vwCl (zT y) (wM y a f sv ai tx sm ln th hh) sz (fun _ : Unit => wM y a (if thAdd f b = 0 then addT f b else f) (if thAdd f b = 0 then svS sv f sm else sv) ai tx (if thAdd f b = 0 then smS sm else sm) ln (thAdd f b) hh)) (va_A (wM y a f sv ai tx sm ln th hh) sz)) 0 0 (va_A (wM y a f sv ai tx sm ln th hh) sz) := by
  refine z_headW (cc := cX5_addTrain) (maxL := 3) (ret := (some .int)) [(0, .ref (a 0)), (1, .int (iZ b))] rfl (Nat.le_of_ble_eq_true rfl) (by decide +kernel) rfl ?_
  intro pp ee ss mm below meth cd mx mb mr mml mo mts mlk hK hname hsz hA
  generalize ([.ref (a 0), .int (iZ b)] : List Value).toArray = args at mts ⊢
  obtain ⟨wst, hw0⟩ : ∃ wst, wst = wM y a f sv ai tx sm ln th hh := ⟨_, rfl⟩
  have hA : ∀ q, ss.heap.size ≤ q → va_A wst sz q := by rw [hw0]; exact hA
  obtain ⟨Q, hQ⟩ : ∃ Q, Q = MQ below (va_Qi (fun (r : Int32) (_ : Unit) => r = iZ (if thAdd f b = 0 then f 2 else 0)) (zB D vwCl (zT y) wst sz (fun _ : Unit => wM y a (if thAdd f b = 0 then addT f b else f) (if thAdd f b = 0 then svS sv f sm else sv) ai tx (if thAdd f b = 0 then smS sm else sm) ln (thAdd f b) hh)) (va_A wst sz)) args ss 0 0 (va_A wst sz) := ⟨_, rfl⟩
  have hstart : Gz pp l ee ({ frames := 3, cells := 0, slots := 0, locals := 70 } : Room) ss mm args below meth cd 3 0 0 Q (Zw D vwCl (va_A wst sz) ss (wM y a f sv ai tx sm ln th hh)) 0 [(0, .ref (a 0)), (1, .int (iZ b))] [] := by
    have hX : InvX f := ⟨_, hI, by omega⟩
    have hJ := hX.J
    obtain ⟨hW, hN, hT⟩ := hJ.f
    obtain ⟨w0, w1, w2, w3, w4, w5, w6⟩ := id hW
    obtain ⟨n3, n4, n5, n6, n7, n8, n9, n10⟩ := id hN
    refine z_aload_n mx mb dX5_addTrain_0 rfl 0 rfl ?_
    refine z_iload_n mx mb dX5_addTrain_1 rfl 1 rfl ?_
    refine z_callP (As := [.int (iZ b)]) (rest := []) ⟨mx, mb, mml, mo, mts⟩ hK zgw (c_X5_isBlock l D y a f sv ai tx sm ln th hh b (by omega) (by omega)) (cwV 1 mts gX5_addTrain_X5_isBlock rfl rfl rfl (by decide +kernel) ⟨Nat.le_of_ble_eq_true rfl, Nat.le_of_ble_eq_true rfl⟩) (fun _ h => h) 0 wM_0 rfl rfl rfl rfl (Nat.le_of_ble_eq_true rfl) ⟨Nat.zero_le _, Nat.zero_le _⟩ dX5_addTrain_2 ?_
    refine z_if_ne (tgt := 14) mx mb (b2z_rng _) dX5_addTrain_5 (by decide) (fun c5 => ?_) (fun c5 => ?_)
    · skip
      have hb := b2z_ne c5
      refine z_aload_n mx mb dX5_addTrain_14 rfl 0 rfl ?_
      refine z_get (C := RX5) (T := TX5) (N := 8) mx mb mts (in_X5_addTrain_X5) mo hK zgw 0 wM_0 rfl 0 (by decide) (mts _ (List.mem_of_getElem? (i := 1) rfl)) (fun _ h9 => h9) rfl dX5_addTrain_15 ?_
      refine z_iconst mx mb dX5_addTrain_18 ?_
      refine z_iald mx mb hK zgw 1 0 wM_1 rfl (by decide) (by omega) dX5_addTrain_19 ?_
      refine z_iconst mx mb dX5_addTrain_20 ?_
      refine z_icmp_eq (tgt := 32) mx mb (by omega) (by omega) dX5_addTrain_21 (by decide) (fun c21 => ?_) (fun c21 => ?_)
      · skip
        refine z_aload_n mx mb dX5_addTrain_32 rfl 0 rfl ?_
        refine z_iconst mx mb dX5_addTrain_33 ?_
        refine z_callI0 (As := [.int (iZ 2)]) (rest := []) ⟨mx, mb, mml, mo, mts⟩ hK hA (fun sz => c_X5_fails l D sz y a f sv ai tx sm ln th hh 2 ) (cwV 1 mts gX5_addTrain_X5_fails rfl rfl rfl (by decide +kernel) ⟨Nat.le_of_ble_eq_true rfl, Nat.le_of_ble_eq_true rfl⟩) 0 wM_0 rfl rfl rfl rfl (Nat.le_of_ble_eq_true rfl) ⟨Nat.zero_le _, Nat.zero_le _⟩ dX5_addTrain_34 (fun r34 u34 hu34 => ?_)
        subst hu34
        show Gz pp l ee ({ frames := 3, cells := 0, slots := 0, locals := 70 } : Room) ss mm args below meth cd 3 0 0 Q (Zw D vwCl (va_A wst sz) ss (wM y a f sv ai tx sm ln 2 hh)) 37 [(0, .ref (a 0)), (1, .int (iZ b))] [.int (iZ 0)]
        have hth : thAdd f b = 2 := by unfold thAdd; rw [if_pos hb, if_pos (Or.inl c21)]
        rw [hQ]
        exact z_retI mx mb mr mlk hK () (by rw [hth]; rfl) (by rw [hth]; rfl) dX5_addTrain_37
      · skip
        refine z_aload_n mx mb dX5_addTrain_24 rfl 0 rfl ?_
        refine z_iload_n mx mb dX5_addTrain_25 rfl 1 rfl ?_
        refine z_callP (As := [.int (iZ b)]) (rest := []) ⟨mx, mb, mml, mo, mts⟩ hK zgw (c_X5_isFree l D y a f sv ai tx sm ln th hh b (by omega) (by assumption)) (cwV 1 mts gX5_addTrain_X5_isFree rfl rfl rfl (by decide +kernel) ⟨Nat.le_of_ble_eq_true rfl, Nat.le_of_ble_eq_true rfl⟩) (fun _ h => h) 0 wM_0 rfl rfl rfl rfl (Nat.le_of_ble_eq_true rfl) ⟨Nat.zero_le _, Nat.zero_le _⟩ dX5_addTrain_26 ?_
        refine z_if_ne (tgt := 38) mx mb (b2z_rng _) dX5_addTrain_29 (by decide) (fun c29 => ?_) (fun c29 => ?_)
        · skip
          refine z_aload_n mx mb dX5_addTrain_38 rfl 0 rfl ?_
          refine z_callV0 (As := []) (rest := []) ⟨mx, mb, mml, mo, mts⟩ hK hA (fun sz => c_X5_saves l D sz y a f sv ai tx sm ln th hh  (by omega)) (cwV 0 mts gX5_addTrain_X5_saves rfl rfl rfl (by decide +kernel) ⟨Nat.le_of_ble_eq_true rfl, Nat.le_of_ble_eq_true rfl⟩) 0 wM_0 rfl rfl rfl rfl (Nat.le_of_ble_eq_true rfl) ⟨Nat.zero_le _, Nat.zero_le _⟩ dX5_addTrain_39 (fun u39 hu39 => ?_)
          show Gz pp l ee ({ frames := 3, cells := 0, slots := 0, locals := 70 } : Room) ss mm args below meth cd 3 0 0 Q (Zw D vwCl (va_A wst sz) ss (wM y a f (svS sv f sm) ai tx (smS sm) ln th hh)) 42 [(0, .ref (a 0)), (1, .int (iZ b))] []
          refine z_aload_n mx mb dX5_addTrain_42 rfl 0 rfl ?_
          refine z_get (C := RX5) (T := TX5) (N := 8) mx mb mts (in_X5_addTrain_X5) mo hK zgw 0 wM_0 rfl 0 (by decide) (mts _ (List.mem_of_getElem? (i := 1) rfl)) (fun _ h9 => h9) rfl dX5_addTrain_43 ?_
          refine z_iconst mx mb dX5_addTrain_46 ?_
          refine z_iald mx mb hK zgw 1 0 wM_1 rfl (by decide) (by omega) dX5_addTrain_47 ?_
          refine z_istore_n mx mb dX5_addTrain_48 rfl (by decide) [(2, .int (iZ (f 2))), (0, .ref (a 0)), (1, .int (iZ b))] rfl ?_
          refine z_aload_n mx mb dX5_addTrain_49 rfl 1 rfl ?_
          refine z_get (C := RX5) (T := TX5) (N := 8) mx mb mts (in_X5_addTrain_X5) mo hK zgw 0 wM_0 rfl 0 (by decide) (mts _ (List.mem_of_getElem? (i := 1) rfl)) (fun _ h9 => h9) rfl dX5_addTrain_50 ?_
          refine z_iconst mx mb dX5_addTrain_53 ?_
          refine z_dup2 mx mb dX5_addTrain_54 rfl rfl ?_
          refine z_iald mx mb hK zgw 1 0 wM_1 rfl (by decide) (by omega) dX5_addTrain_55 ?_
          refine z_iconst mx mb dX5_addTrain_56 ?_
          refine z_iadd mx mb dX5_addTrain_57 ?_
          refine z_iast mx mb hK 1 0 wM_1 rfl (by decide) (by omega) dX5_addTrain_58 (wM y a (zu f 2 ((f 2) + 1)) (svS sv f sm) ai tx (smS sm) ln th hh) wM_s1 ?_
          refine z_aload_n mx mb dX5_addTrain_59 rfl 1 rfl ?_
          refine z_iload_n mx mb dX5_addTrain_60 rfl 0 rfl ?_
          refine z_iconst mx mb dX5_addTrain_61 ?_
          refine z_aload_n mx mb dX5_addTrain_62 rfl 1 rfl ?_
          refine z_iload_n mx mb dX5_addTrain_63 rfl 2 rfl ?_
          have wz : Wf (zu f 2 (f 2 + 1)) := Wf_zu2 hW (by omega)
          have ez1 : zu f 2 (f 2 + 1) 1 = f 1 := zu_n (by omega)
          refine z_callP (As := [.int (iZ b)]) (rest := [.int (iZ 0), .int (iZ (f 2)), .ref (a 0)]) ⟨mx, mb, mml, mo, mts⟩ hK zgw (c_X5_brakeOf l D y a (zu f 2 ((f 2) + 1)) (svS sv f sm) ai tx (smS sm) ln th hh b (by omega) (by assumption)) (cwV 1 mts gX5_addTrain_X5_brakeOf rfl rfl rfl (by decide +kernel) ⟨Nat.le_of_ble_eq_true rfl, Nat.le_of_ble_eq_true rfl⟩) (fun _ h => h) 0 wM_0 rfl rfl rfl rfl (Nat.le_of_ble_eq_true rfl) ⟨Nat.zero_le _, Nat.zero_le _⟩ dX5_addTrain_64 ?_
          refine z_top (show brakeOf (zu f 2 ((f 2) + 1)) b = brakeOf f b from by exact brakeOf_congr (fun i _ _ => zu_n (by omega))) ?_
          refine z_callV0 (As := [.int (iZ (f 2)), .int (iZ 0), .int (iZ (brakeOf f b))]) (rest := []) ⟨mx, mb, mml, mo, mts⟩ hK hA (fun sz => c_X5_put l D sz y a (zu f 2 ((f 2) + 1)) (svS sv f sm) ai tx (smS sm) ln th hh (f 2) 0 (brakeOf f b) (by omega)) (cwV 3 mts gX5_addTrain_X5_put rfl rfl rfl (by decide +kernel) ⟨Nat.le_of_ble_eq_true rfl, Nat.le_of_ble_eq_true rfl⟩) 0 wM_0 rfl rfl rfl rfl (Nat.le_of_ble_eq_true rfl) ⟨Nat.zero_le _, Nat.zero_le _⟩ dX5_addTrain_67 (fun u67 hu67 => ?_)
          show Gz pp l ee ({ frames := 3, cells := 0, slots := 0, locals := 70 } : Room) ss mm args below meth cd 3 0 0 Q (Zw D vwCl (va_A wst sz) ss (wM y a (put (zu f 2 ((f 2) + 1)) (f 2) 0 (brakeOf f b)) (svS sv f sm) ai tx (smS sm) ln th hh)) 70 [(2, .int (iZ (f 2))), (0, .ref (a 0)), (1, .int (iZ b))] []
          refine z_aload_n mx mb dX5_addTrain_70 rfl 1 rfl ?_
          refine z_iload_n mx mb dX5_addTrain_71 rfl 0 rfl ?_
          refine z_iconst mx mb dX5_addTrain_72 ?_
          refine z_aload_n mx mb dX5_addTrain_73 rfl 1 rfl ?_
          refine z_get (C := RX5) (T := TX5) (N := 8) mx mb mts (in_X5_addTrain_X5) mo hK zgw 0 wM_0 rfl 0 (by decide) (mts _ (List.mem_of_getElem? (i := 1) rfl)) (fun _ h9 => h9) rfl dX5_addTrain_74 ?_
          refine z_bipush mx mb dX5_addTrain_77 (by decide +kernel) ?_
          refine z_iald mx mb hK zgw 1 0 wM_1 rfl (by decide) (by omega) dX5_addTrain_79 ?_
          refine z_top (show (put (zu f 2 ((f 2) + 1)) (f 2) 0 (brakeOf f b)) 7 = f 7 from by rw [put_n (by omega), zu_n (by omega)]) ?_
          refine z_callV0 (As := [.int (iZ (f 2)), .int (iZ 3), .int (iZ (f 7))]) (rest := []) ⟨mx, mb, mml, mo, mts⟩ hK hA (fun sz => c_X5_put l D sz y a (put (zu f 2 ((f 2) + 1)) (f 2) 0 (brakeOf f b)) (svS sv f sm) ai tx (smS sm) ln th hh (f 2) 3 (f 7) (by omega)) (cwV 3 mts gX5_addTrain_X5_put rfl rfl rfl (by decide +kernel) ⟨Nat.le_of_ble_eq_true rfl, Nat.le_of_ble_eq_true rfl⟩) 0 wM_0 rfl rfl rfl rfl (Nat.le_of_ble_eq_true rfl) ⟨Nat.zero_le _, Nat.zero_le _⟩ dX5_addTrain_80 (fun u80 hu80 => ?_)
          show Gz pp l ee ({ frames := 3, cells := 0, slots := 0, locals := 70 } : Room) ss mm args below meth cd 3 0 0 Q (Zw D vwCl (va_A wst sz) ss (wM y a (put (put (zu f 2 ((f 2) + 1)) (f 2) 0 (brakeOf f b)) (f 2) 3 (f 7)) (svS sv f sm) ai tx (smS sm) ln th hh)) 83 [(2, .int (iZ (f 2))), (0, .ref (a 0)), (1, .int (iZ b))] []
          refine z_aload_n mx mb dX5_addTrain_83 rfl 1 rfl ?_
          refine z_iload_n mx mb dX5_addTrain_84 rfl 0 rfl ?_
          refine z_bipush mx mb dX5_addTrain_85 (by decide +kernel) ?_
          refine z_iconst mx mb dX5_addTrain_87 ?_
          refine z_callV0 (As := [.int (iZ (f 2)), .int (iZ 6), .int (iZ 0)]) (rest := []) ⟨mx, mb, mml, mo, mts⟩ hK hA (fun sz => c_X5_put l D sz y a (put (put (zu f 2 ((f 2) + 1)) (f 2) 0 (brakeOf f b)) (f 2) 3 (f 7)) (svS sv f sm) ai tx (smS sm) ln th hh (f 2) 6 0 (by omega)) (cwV 3 mts gX5_addTrain_X5_put rfl rfl rfl (by decide +kernel) ⟨Nat.le_of_ble_eq_true rfl, Nat.le_of_ble_eq_true rfl⟩) 0 wM_0 rfl rfl rfl rfl (Nat.le_of_ble_eq_true rfl) ⟨Nat.zero_le _, Nat.zero_le _⟩ dX5_addTrain_88 (fun u88 hu88 => ?_)
          show Gz pp l ee ({ frames := 3, cells := 0, slots := 0, locals := 70 } : Room) ss mm args below meth cd 3 0 0 Q (Zw D vwCl (va_A wst sz) ss (wM y a (put (put (put (zu f 2 ((f 2) + 1)) (f 2) 0 (brakeOf f b)) (f 2) 3 (f 7)) (f 2) 6 0) (svS sv f sm) ai tx (smS sm) ln th hh)) 91 [(2, .int (iZ (f 2))), (0, .ref (a 0)), (1, .int (iZ b))] []
          refine z_aload_n mx mb dX5_addTrain_91 rfl 1 rfl ?_
          refine z_iload_n mx mb dX5_addTrain_92 rfl 0 rfl ?_
          refine z_bipush mx mb dX5_addTrain_93 (by decide +kernel) ?_
          refine z_iconst mx mb dX5_addTrain_95 ?_
          refine z_callV0 (As := [.int (iZ (f 2)), .int (iZ 7), .int (iZ 0)]) (rest := []) ⟨mx, mb, mml, mo, mts⟩ hK hA (fun sz => c_X5_put l D sz y a (put (put (put (zu f 2 ((f 2) + 1)) (f 2) 0 (brakeOf f b)) (f 2) 3 (f 7)) (f 2) 6 0) (svS sv f sm) ai tx (smS sm) ln th hh (f 2) 7 0 (by omega)) (cwV 3 mts gX5_addTrain_X5_put rfl rfl rfl (by decide +kernel) ⟨Nat.le_of_ble_eq_true rfl, Nat.le_of_ble_eq_true rfl⟩) 0 wM_0 rfl rfl rfl rfl (Nat.le_of_ble_eq_true rfl) ⟨Nat.zero_le _, Nat.zero_le _⟩ dX5_addTrain_96 (fun u96 hu96 => ?_)
          show Gz pp l ee ({ frames := 3, cells := 0, slots := 0, locals := 70 } : Room) ss mm args below meth cd 3 0 0 Q (Zw D vwCl (va_A wst sz) ss (wM y a (put (put (put (put (zu f 2 ((f 2) + 1)) (f 2) 0 (brakeOf f b)) (f 2) 3 (f 7)) (f 2) 6 0) (f 2) 7 0) (svS sv f sm) ai tx (smS sm) ln th hh)) 99 [(2, .int (iZ (f 2))), (0, .ref (a 0)), (1, .int (iZ b))] []
          refine z_aload_n mx mb dX5_addTrain_99 rfl 1 rfl ?_
          refine z_iload_n mx mb dX5_addTrain_100 rfl 0 rfl ?_
          refine z_callV0 (As := [.int (iZ (f 2))]) (rest := []) ⟨mx, mb, mml, mo, mts⟩ hK hA (fun sz => c_X5_stands l D sz y a (put (put (put (put (zu f 2 ((f 2) + 1)) (f 2) 0 (brakeOf f b)) (f 2) 3 (f 7)) (f 2) 6 0) (f 2) 7 0) (svS sv f sm) ai tx (smS sm) ln th hh (f 2) (by omega)) (cwV 1 mts gX5_addTrain_X5_stands rfl rfl rfl (by decide +kernel) ⟨Nat.le_of_ble_eq_true rfl, Nat.le_of_ble_eq_true rfl⟩) 0 wM_0 rfl rfl rfl rfl (Nat.le_of_ble_eq_true rfl) ⟨Nat.zero_le _, Nat.zero_le _⟩ dX5_addTrain_101 (fun u101 hu101 => ?_)
          show Gz pp l ee ({ frames := 3, cells := 0, slots := 0, locals := 70 } : Room) ss mm args below meth cd 3 0 0 Q (Zw D vwCl (va_A wst sz) ss (wM y a (stands (put (put (put (put (zu f 2 ((f 2) + 1)) (f 2) 0 (brakeOf f b)) (f 2) 3 (f 7)) (f 2) 6 0) (f 2) 7 0) (f 2)) (svS sv f sm) ai tx (smS sm) ln th hh)) 104 [(2, .int (iZ (f 2))), (0, .ref (a 0)), (1, .int (iZ b))] []
          refine z_aload_n mx mb dX5_addTrain_104 rfl 1 rfl ?_
          refine z_iload_n mx mb dX5_addTrain_105 rfl 0 rfl ?_
          refine z_callI0 (As := [.int (iZ (f 2))]) (rest := []) ⟨mx, mb, mml, mo, mts⟩ hK hA (fun sz => c_X5_tells l D sz y a (stands (put (put (put (put (zu f 2 ((f 2) + 1)) (f 2) 0 (brakeOf f b)) (f 2) 3 (f 7)) (f 2) 6 0) (f 2) 7 0) (f 2)) (svS sv f sm) ai tx (smS sm) ln th hh (f 2) ) (cwV 1 mts gX5_addTrain_X5_tells rfl rfl rfl (by decide +kernel) ⟨Nat.le_of_ble_eq_true rfl, Nat.le_of_ble_eq_true rfl⟩) 0 wM_0 rfl rfl rfl rfl (Nat.le_of_ble_eq_true rfl) ⟨Nat.zero_le _, Nat.zero_le _⟩ dX5_addTrain_106 (fun r106 u106 hu106 => ?_)
          subst hu106
          show Gz pp l ee ({ frames := 3, cells := 0, slots := 0, locals := 70 } : Room) ss mm args below meth cd 3 0 0 Q (Zw D vwCl (va_A wst sz) ss (wM y a (stands (put (put (put (put (zu f 2 ((f 2) + 1)) (f 2) 0 (brakeOf f b)) (f 2) 3 (f 7)) (f 2) 6 0) (f 2) 7 0) (f 2)) (svS sv f sm) ai tx (smS sm) ln 0 hh)) 109 [(2, .int (iZ (f 2))), (0, .ref (a 0)), (1, .int (iZ b))] [.int (iZ (f 2))]
          have hth : thAdd f b = 0 := by unfold thAdd; rw [if_pos hb, if_neg (fun q => q.elim c21 (fun z => Bool.noConfusion (z.symm.trans (b2z_ne c29))))]
          rw [hQ]
          exact z_retI mx mb mr mlk hK () (by rw [hth]; rfl) (by rw [hth]; rfl) dX5_addTrain_109
        · skip
          refine z_aload_n mx mb dX5_addTrain_32 rfl 0 rfl ?_
          refine z_iconst mx mb dX5_addTrain_33 ?_
          refine z_callI0 (As := [.int (iZ 2)]) (rest := []) ⟨mx, mb, mml, mo, mts⟩ hK hA (fun sz => c_X5_fails l D sz y a f sv ai tx sm ln th hh 2 ) (cwV 1 mts gX5_addTrain_X5_fails rfl rfl rfl (by decide +kernel) ⟨Nat.le_of_ble_eq_true rfl, Nat.le_of_ble_eq_true rfl⟩) 0 wM_0 rfl rfl rfl rfl (Nat.le_of_ble_eq_true rfl) ⟨Nat.zero_le _, Nat.zero_le _⟩ dX5_addTrain_34 (fun r34 u34 hu34 => ?_)
          subst hu34
          show Gz pp l ee ({ frames := 3, cells := 0, slots := 0, locals := 70 } : Room) ss mm args below meth cd 3 0 0 Q (Zw D vwCl (va_A wst sz) ss (wM y a f sv ai tx sm ln 2 hh)) 37 [(0, .ref (a 0)), (1, .int (iZ b))] [.int (iZ 0)]
          have hth : thAdd f b = 2 := by unfold thAdd; rw [if_pos hb, if_pos (Or.inr (Bool.eq_false_iff.mpr (b2z_e c29)))]
          rw [hQ]
          exact z_retI mx mb mr mlk hK () (by rw [hth]; rfl) (by rw [hth]; rfl) dX5_addTrain_37
    · skip
      refine z_aload_n mx mb dX5_addTrain_8 rfl 0 rfl ?_
      refine z_iconst mx mb dX5_addTrain_9 ?_
      refine z_callI0 (As := [.int (iZ 1)]) (rest := []) ⟨mx, mb, mml, mo, mts⟩ hK hA (fun sz => c_X5_fails l D sz y a f sv ai tx sm ln th hh 1 ) (cwV 1 mts gX5_addTrain_X5_fails rfl rfl rfl (by decide +kernel) ⟨Nat.le_of_ble_eq_true rfl, Nat.le_of_ble_eq_true rfl⟩) 0 wM_0 rfl rfl rfl rfl (Nat.le_of_ble_eq_true rfl) ⟨Nat.zero_le _, Nat.zero_le _⟩ dX5_addTrain_10 (fun r10 u10 hu10 => ?_)
      subst hu10
      show Gz pp l ee ({ frames := 3, cells := 0, slots := 0, locals := 70 } : Room) ss mm args below meth cd 3 0 0 Q (Zw D vwCl (va_A wst sz) ss (wM y a f sv ai tx sm ln 1 hh)) 13 [(0, .ref (a 0)), (1, .int (iZ b))] [.int (iZ 0)]
      have hth : thAdd f b = 1 := by unfold thAdd; rw [if_neg (b2z_e c5)]
      rw [hQ]
      exact z_retI mx mb mr mlk hK () (by rw [hth]; rfl) (by rw [hth]; rfl) dX5_addTrain_13
  subst hQ
  subst hw0
  exact hstart

theorem in_X5_takeTrain_X5 : ∀ w ∈ wsX50, w ∈ wsX5_takeTrain := by decide +kernel
set_option maxRecDepth 100000 in
set_option maxHeartbeats 4000000 in
theorem c_X5_takeTrain (l : Launch) (D : va_G) (sz : Nat) (y : Nat → ClassId) (a : Nat → Nat) (f sv ai tx : Int → Int) (sm ln th hh : Int) (hI : Inv 100000 f) (hs : 0 ≤ sm ∧ sm ≤ 4) : Met l yX5_takeTrain wsX5_takeTrain ({ frames := 1, cells := 0, slots := 0, locals := 21 } : Room) (zPw D vwCl (zT y) (wM y a f sv ai tx sm ln th hh) sz [.ref (a 0)]) (va_Qi (fun (r : Int32) (_ : Unit) => r = iZ (if thTake f = 0 then f 2 - 1 else 0)) (zB D vwCl (zT y) (wM y a f sv ai tx sm ln th hh) sz (fun _ : Unit => wM y a (if thTake f = 0 then zu f 2 (f 2 - 1) else f) (if thTake f = 0 then svS sv f sm else sv) ai tx (if thTake f = 0 then smS sm else sm) ln (thTake f) hh)) (va_A (wM y a f sv ai tx sm ln th hh) sz)) 0 0 (va_A (wM y a f sv ai tx sm ln th hh) sz) := by
  refine z_headW (cc := cX5_takeTrain) (maxL := 1) (ret := (some .int)) [(0, .ref (a 0))] rfl (Nat.le_of_ble_eq_true rfl) (by decide +kernel) rfl ?_
  intro pp ee ss mm below meth cd mx mb mr mml mo mts mlk hK hname hsz hA
  generalize ([.ref (a 0)] : List Value).toArray = args at mts ⊢
  obtain ⟨wst, hw0⟩ : ∃ wst, wst = wM y a f sv ai tx sm ln th hh := ⟨_, rfl⟩
  have hA : ∀ q, ss.heap.size ≤ q → va_A wst sz q := by rw [hw0]; exact hA
  obtain ⟨Q, hQ⟩ : ∃ Q, Q = MQ below (va_Qi (fun (r : Int32) (_ : Unit) => r = iZ (if thTake f = 0 then f 2 - 1 else 0)) (zB D vwCl (zT y) wst sz (fun _ : Unit => wM y a (if thTake f = 0 then zu f 2 (f 2 - 1) else f) (if thTake f = 0 then svS sv f sm else sv) ai tx (if thTake f = 0 then smS sm else sm) ln (thTake f) hh)) (va_A wst sz)) args ss 0 0 (va_A wst sz) := ⟨_, rfl⟩
  have hstart : Gz pp l ee ({ frames := 1, cells := 0, slots := 0, locals := 21 } : Room) ss mm args below meth cd 1 0 0 Q (Zw D vwCl (va_A wst sz) ss (wM y a f sv ai tx sm ln th hh)) 0 [(0, .ref (a 0))] [] := by
    have hX : InvX f := ⟨_, hI, by omega⟩
    have hJ := hX.J
    obtain ⟨hW, hN, hT⟩ := hJ.f
    obtain ⟨w0, w1, w2, w3, w4, w5, w6⟩ := id hW
    obtain ⟨n3, n4, n5, n6, n7, n8, n9, n10⟩ := id hN
    refine z_aload_n mx mb dX5_takeTrain_0 rfl 0 rfl ?_
    refine z_get (C := RX5) (T := TX5) (N := 8) mx mb mts (in_X5_takeTrain_X5) mo hK zgw 0 wM_0 rfl 0 (by decide) (mts _ (List.mem_of_getElem? (i := 1) rfl)) (fun _ h9 => h9) rfl dX5_takeTrain_1 ?_
    refine z_iconst mx mb dX5_takeTrain_4 ?_
    refine z_iald mx mb hK zgw 1 0 wM_1 rfl (by decide) (by omega) dX5_takeTrain_5 ?_
    refine z_if_ne (tgt := 15) mx mb (by omega) dX5_takeTrain_6 (by decide) (fun c6 => ?_) (fun c6 => ?_)
    · skip
      refine z_aload_n mx mb dX5_takeTrain_15 rfl 0 rfl ?_
      refine z_callV0 (As := []) (rest := []) ⟨mx, mb, mml, mo, mts⟩ hK hA (fun sz => c_X5_saves l D sz y a f sv ai tx sm ln th hh  (by omega)) (cwV 0 mts gX5_takeTrain_X5_saves rfl rfl rfl (by decide +kernel) ⟨Nat.le_of_ble_eq_true rfl, Nat.le_of_ble_eq_true rfl⟩) 0 wM_0 rfl rfl rfl rfl (Nat.le_of_ble_eq_true rfl) ⟨Nat.zero_le _, Nat.zero_le _⟩ dX5_takeTrain_16 (fun u16 hu16 => ?_)
      show Gz pp l ee ({ frames := 1, cells := 0, slots := 0, locals := 21 } : Room) ss mm args below meth cd 1 0 0 Q (Zw D vwCl (va_A wst sz) ss (wM y a f (svS sv f sm) ai tx (smS sm) ln th hh)) 19 [(0, .ref (a 0))] []
      refine z_aload_n mx mb dX5_takeTrain_19 rfl 0 rfl ?_
      refine z_get (C := RX5) (T := TX5) (N := 8) mx mb mts (in_X5_takeTrain_X5) mo hK zgw 0 wM_0 rfl 0 (by decide) (mts _ (List.mem_of_getElem? (i := 1) rfl)) (fun _ h9 => h9) rfl dX5_takeTrain_20 ?_
      refine z_iconst mx mb dX5_takeTrain_23 ?_
      refine z_dup2 mx mb dX5_takeTrain_24 rfl rfl ?_
      refine z_iald mx mb hK zgw 1 0 wM_1 rfl (by decide) (by omega) dX5_takeTrain_25 ?_
      refine z_iconst mx mb dX5_takeTrain_26 ?_
      refine z_isub mx mb dX5_takeTrain_27 ?_
      refine z_iast mx mb hK 1 0 wM_1 rfl (by decide) (by omega) dX5_takeTrain_28 (wM y a (zu f 2 ((f 2) - 1)) (svS sv f sm) ai tx (smS sm) ln th hh) wM_s1 ?_
      refine z_aload_n mx mb dX5_takeTrain_29 rfl 0 rfl ?_
      refine z_aload_n mx mb dX5_takeTrain_30 rfl 0 rfl ?_
      refine z_get (C := RX5) (T := TX5) (N := 8) mx mb mts (in_X5_takeTrain_X5) mo hK zgw 0 wM_0 rfl 0 (by decide) (mts _ (List.mem_of_getElem? (i := 1) rfl)) (fun _ h9 => h9) rfl dX5_takeTrain_31 ?_
      refine z_iconst mx mb dX5_takeTrain_34 ?_
      refine z_iald mx mb hK zgw 1 0 wM_1 rfl (by decide) (by omega) dX5_takeTrain_35 ?_
      refine z_top (show (zu f 2 ((f 2) - 1)) 2 = f 2 - 1 from by exact zu_s _ _ _) ?_
      refine z_callI0 (As := [.int (iZ (f 2 - 1))]) (rest := []) ⟨mx, mb, mml, mo, mts⟩ hK hA (fun sz => c_X5_tells l D sz y a (zu f 2 ((f 2) - 1)) (svS sv f sm) ai tx (smS sm) ln th hh (f 2 - 1) ) (cwV 1 mts gX5_takeTrain_X5_tells rfl rfl rfl (by decide +kernel) ⟨Nat.le_of_ble_eq_true rfl, Nat.le_of_ble_eq_true rfl⟩) 0 wM_0 rfl rfl rfl rfl (Nat.le_of_ble_eq_true rfl) ⟨Nat.zero_le _, Nat.zero_le _⟩ dX5_takeTrain_36 (fun r36 u36 hu36 => ?_)
      subst hu36
      show Gz pp l ee ({ frames := 1, cells := 0, slots := 0, locals := 21 } : Room) ss mm args below meth cd 1 0 0 Q (Zw D vwCl (va_A wst sz) ss (wM y a (zu f 2 ((f 2) - 1)) (svS sv f sm) ai tx (smS sm) ln 0 hh)) 39 [(0, .ref (a 0))] [.int (iZ (f 2 - 1))]
      have hth : thTake f = 0 := by unfold thTake; rw [if_neg c6]
      rw [hQ]
      exact z_retI mx mb mr mlk hK () (by rw [hth]; rfl) (by rw [hth]; rfl) dX5_takeTrain_39
    · skip
      refine z_aload_n mx mb dX5_takeTrain_9 rfl 0 rfl ?_
      refine z_iconst mx mb dX5_takeTrain_10 ?_
      refine z_callI0 (As := [.int (iZ 1)]) (rest := []) ⟨mx, mb, mml, mo, mts⟩ hK hA (fun sz => c_X5_fails l D sz y a f sv ai tx sm ln th hh 1 ) (cwV 1 mts gX5_takeTrain_X5_fails rfl rfl rfl (by decide +kernel) ⟨Nat.le_of_ble_eq_true rfl, Nat.le_of_ble_eq_true rfl⟩) 0 wM_0 rfl rfl rfl rfl (Nat.le_of_ble_eq_true rfl) ⟨Nat.zero_le _, Nat.zero_le _⟩ dX5_takeTrain_11 (fun r11 u11 hu11 => ?_)
      subst hu11
      show Gz pp l ee ({ frames := 1, cells := 0, slots := 0, locals := 21 } : Room) ss mm args below meth cd 1 0 0 Q (Zw D vwCl (va_A wst sz) ss (wM y a f sv ai tx sm ln 1 hh)) 14 [(0, .ref (a 0))] [.int (iZ 0)]
      have hth : thTake f = 1 := by unfold thTake; rw [if_pos c6]
      rw [hQ]
      exact z_retI mx mb mr mlk hK () (by rw [hth]; rfl) (by rw [hth]; rfl) dX5_takeTrain_14
  subst hQ
  subst hw0
  exact hstart

set_option maxRecDepth 100000 in
set_option maxHeartbeats 4000000 in
theorem c_X5_rescue (l : Launch) (D : va_G) (sz : Nat) (y : Nat → ClassId) (a : Nat → Nat) (f sv ai tx : Int → Int) (sm ln th hh : Int) (t : Int) (ht : -2147483648 ≤ t ∧ t ≤ 2147483647) (hI : Inv 100000 f) (hs : 0 ≤ sm ∧ sm ≤ 4) : Met l yX5_rescue wsX5_rescue ({ frames := 2, cells := 0, slots := 0, locals := 44 } : Room) (zPw D vwCl (zT y) (wM y a f sv ai tx sm ln th hh) sz [.ref (a 0), .int (iZ t)]) (va_Qi (fun (r : Int32) (_ : Unit) => r = iZ (if thRes f t = 0 then f (79 + 8 * t + 0) else 0)) (zB D vwCl (zT y) (wM y a f sv ai tx sm ln th hh) sz (fun _ : Unit => wM y a (if thRes f t = 0 then resT f t else f) (if thRes f t = 0 then svS sv f sm else sv) ai tx (if thRes f t = 0 then smS sm else sm) ln (thRes f t) hh)) (va_A (wM y a f sv ai tx sm ln th hh) sz)) 0 0 (va_A (wM y a f sv ai tx sm ln th hh) sz) := by
  refine z_headW (cc := cX5_rescue) (maxL := 3) (ret := (some .int)) [(0, .ref (a 0)), (1, .int (iZ t))] rfl (Nat.le_of_ble_eq_true rfl) (by decide +kernel) rfl ?_
  intro pp ee ss mm below meth cd mx mb mr mml mo mts mlk hK hname hsz hA
  generalize ([.ref (a 0), .int (iZ t)] : List Value).toArray = args at mts ⊢
  obtain ⟨wst, hw0⟩ : ∃ wst, wst = wM y a f sv ai tx sm ln th hh := ⟨_, rfl⟩
  have hA : ∀ q, ss.heap.size ≤ q → va_A wst sz q := by rw [hw0]; exact hA
  obtain ⟨Q, hQ⟩ : ∃ Q, Q = MQ below (va_Qi (fun (r : Int32) (_ : Unit) => r = iZ (if thRes f t = 0 then f (79 + 8 * t + 0) else 0)) (zB D vwCl (zT y) wst sz (fun _ : Unit => wM y a (if thRes f t = 0 then resT f t else f) (if thRes f t = 0 then svS sv f sm else sv) ai tx (if thRes f t = 0 then smS sm else sm) ln (thRes f t) hh)) (va_A wst sz)) args ss 0 0 (va_A wst sz) := ⟨_, rfl⟩
  have hstart : Gz pp l ee ({ frames := 2, cells := 0, slots := 0, locals := 44 } : Room) ss mm args below meth cd 3 0 0 Q (Zw D vwCl (va_A wst sz) ss (wM y a f sv ai tx sm ln th hh)) 0 [(0, .ref (a 0)), (1, .int (iZ t))] [] := by
    have hX : InvX f := ⟨_, hI, by omega⟩
    have hJ := hX.J
    obtain ⟨hW, hN, hT⟩ := hJ.f
    obtain ⟨w0, w1, w2, w3, w4, w5, w6⟩ := id hW
    obtain ⟨n3, n4, n5, n6, n7, n8, n9, n10⟩ := id hN
    refine z_aload_n mx mb dX5_rescue_0 rfl 0 rfl ?_
    refine z_iload_n mx mb dX5_rescue_1 rfl 1 rfl ?_
    refine z_callP (As := [.int (iZ t)]) (rest := []) ⟨mx, mb, mml, mo, mts⟩ hK zgw (c_X5_isTrain l D y a f sv ai tx sm ln th hh t (by omega) (by omega)) (cwV 1 mts gX5_rescue_X5_isTrain rfl rfl rfl (by decide +kernel) ⟨Nat.le_of_ble_eq_true rfl, Nat.le_of_ble_eq_true rfl⟩) (fun _ h => h) 0 wM_0 rfl rfl rfl rfl (Nat.le_of_ble_eq_true rfl) ⟨Nat.zero_le _, Nat.zero_le _⟩ dX5_rescue_2 ?_
    refine z_if_ne (tgt := 14) mx mb (b2z_rng _) dX5_rescue_5 (by decide) (fun c5 => ?_) (fun c5 => ?_)
    · skip
      have hb := b2z_ne c5
      have k0 := w6 t (by omega) (by omega)
      have k1 := blockAt_rng hW k0.1
      refine z_aload_n mx mb dX5_rescue_14 rfl 0 rfl ?_
      refine z_iload_n mx mb dX5_rescue_15 rfl 1 rfl ?_
      refine z_iconst mx mb dX5_rescue_16 ?_
      refine z_callP (As := [.int (iZ t), .int (iZ 4)]) (rest := []) ⟨mx, mb, mml, mo, mts⟩ hK zgw (c_X5_of l D y a f sv ai tx sm ln th hh t 4 (by omega)) (cwV 2 mts gX5_rescue_X5_of rfl rfl rfl (by decide +kernel) ⟨Nat.le_of_ble_eq_true rfl, Nat.le_of_ble_eq_true rfl⟩) (fun _ h => h) 0 wM_0 rfl rfl rfl rfl (Nat.le_of_ble_eq_true rfl) ⟨Nat.zero_le _, Nat.zero_le _⟩ dX5_rescue_17 ?_
      refine z_iconst mx mb dX5_rescue_20 ?_
      refine z_icmp_eq (tgt := 30) mx mb (by omega) (by omega) dX5_rescue_21 (by decide) (fun c21 => ?_) (fun c21 => ?_)
      · skip
        refine z_aload_n mx mb dX5_rescue_30 rfl 0 rfl ?_
        refine z_callV0 (As := []) (rest := []) ⟨mx, mb, mml, mo, mts⟩ hK hA (fun sz => c_X5_saves l D sz y a f sv ai tx sm ln th hh  (by omega)) (cwV 0 mts gX5_rescue_X5_saves rfl rfl rfl (by decide +kernel) ⟨Nat.le_of_ble_eq_true rfl, Nat.le_of_ble_eq_true rfl⟩) 0 wM_0 rfl rfl rfl rfl (Nat.le_of_ble_eq_true rfl) ⟨Nat.zero_le _, Nat.zero_le _⟩ dX5_rescue_31 (fun u31 hu31 => ?_)
        show Gz pp l ee ({ frames := 2, cells := 0, slots := 0, locals := 44 } : Room) ss mm args below meth cd 3 0 0 Q (Zw D vwCl (va_A wst sz) ss (wM y a f (svS sv f sm) ai tx (smS sm) ln th hh)) 34 [(0, .ref (a 0)), (1, .int (iZ t))] []
        refine z_aload_n mx mb dX5_rescue_34 rfl 0 rfl ?_
        refine z_iload_n mx mb dX5_rescue_35 rfl 1 rfl ?_
        refine z_iconst mx mb dX5_rescue_36 ?_
        refine z_callP (As := [.int (iZ t), .int (iZ 0)]) (rest := []) ⟨mx, mb, mml, mo, mts⟩ hK zgw (c_X5_of l D y a f (svS sv f sm) ai tx (smS sm) ln th hh t 0 (by omega)) (cwV 2 mts gX5_rescue_X5_of rfl rfl rfl (by decide +kernel) ⟨Nat.le_of_ble_eq_true rfl, Nat.le_of_ble_eq_true rfl⟩) (fun _ h => h) 0 wM_0 rfl rfl rfl rfl (Nat.le_of_ble_eq_true rfl) ⟨Nat.zero_le _, Nat.zero_le _⟩ dX5_rescue_37 ?_
        refine z_istore_n mx mb dX5_rescue_40 rfl (by decide) [(2, .int (iZ (f (79 + 8 * t + 0)))), (0, .ref (a 0)), (1, .int (iZ t))] rfl ?_
        refine z_aload_n mx mb dX5_rescue_41 rfl 1 rfl ?_
        refine z_iload_n mx mb dX5_rescue_42 rfl 2 rfl ?_
        refine z_iconst mx mb dX5_rescue_43 ?_
        refine z_aload_n mx mb dX5_rescue_44 rfl 1 rfl ?_
        refine z_aload_n mx mb dX5_rescue_45 rfl 1 rfl ?_
        refine z_iload_n mx mb dX5_rescue_46 rfl 0 rfl ?_
        refine z_callP (As := [.int (iZ (f (79 + 8 * t + 0)))]) (rest := [.ref (a 0), .int (iZ 0), .int (iZ t), .ref (a 0)]) ⟨mx, mb, mml, mo, mts⟩ hK zgw (c_X5_blockAt l D y a f (svS sv f sm) ai tx (smS sm) ln th hh (f (79 + 8 * t + 0)) (by omega) (by assumption)) (cwV 1 mts gX5_rescue_X5_blockAt rfl rfl rfl (by decide +kernel) ⟨Nat.le_of_ble_eq_true rfl, Nat.le_of_ble_eq_true rfl⟩) (fun _ h => h) 0 wM_0 rfl rfl rfl rfl (Nat.le_of_ble_eq_true rfl) ⟨Nat.zero_le _, Nat.zero_le _⟩ dX5_rescue_47 ?_
        refine z_callP (As := [.int (iZ (blockAt f (f (79 + 8 * t + 0))))]) (rest := [.int (iZ 0), .int (iZ t), .ref (a 0)]) ⟨mx, mb, mml, mo, mts⟩ hK zgw (c_X5_brakeOf l D y a f (svS sv f sm) ai tx (smS sm) ln th hh (blockAt f (f (79 + 8 * t + 0))) (by omega) (by assumption)) (cwV 1 mts gX5_rescue_X5_brakeOf rfl rfl rfl (by decide +kernel) ⟨Nat.le_of_ble_eq_true rfl, Nat.le_of_ble_eq_true rfl⟩) (fun _ h => h) 0 wM_0 rfl rfl rfl rfl (Nat.le_of_ble_eq_true rfl) ⟨Nat.zero_le _, Nat.zero_le _⟩ dX5_rescue_50 ?_
        refine z_callV0 (As := [.int (iZ t), .int (iZ 0), .int (iZ (brakeOf f (blockAt f (f (79 + 8 * t + 0)))))]) (rest := []) ⟨mx, mb, mml, mo, mts⟩ hK hA (fun sz => c_X5_put l D sz y a f (svS sv f sm) ai tx (smS sm) ln th hh t 0 (brakeOf f (blockAt f (f (79 + 8 * t + 0)))) (by omega)) (cwV 3 mts gX5_rescue_X5_put rfl rfl rfl (by decide +kernel) ⟨Nat.le_of_ble_eq_true rfl, Nat.le_of_ble_eq_true rfl⟩) 0 wM_0 rfl rfl rfl rfl (Nat.le_of_ble_eq_true rfl) ⟨Nat.zero_le _, Nat.zero_le _⟩ dX5_rescue_53 (fun u53 hu53 => ?_)
        show Gz pp l ee ({ frames := 2, cells := 0, slots := 0, locals := 44 } : Room) ss mm args below meth cd 3 0 0 Q (Zw D vwCl (va_A wst sz) ss (wM y a (put f t 0 (brakeOf f (blockAt f (f (79 + 8 * t + 0))))) (svS sv f sm) ai tx (smS sm) ln th hh)) 56 [(2, .int (iZ (f (79 + 8 * t + 0)))), (0, .ref (a 0)), (1, .int (iZ t))] []
        refine z_aload_n mx mb dX5_rescue_56 rfl 1 rfl ?_
        refine z_iload_n mx mb dX5_rescue_57 rfl 2 rfl ?_
        refine z_callV0 (As := [.int (iZ t)]) (rest := []) ⟨mx, mb, mml, mo, mts⟩ hK hA (fun sz => c_X5_stands l D sz y a (put f t 0 (brakeOf f (blockAt f (f (79 + 8 * t + 0))))) (svS sv f sm) ai tx (smS sm) ln th hh t (by omega)) (cwV 1 mts gX5_rescue_X5_stands rfl rfl rfl (by decide +kernel) ⟨Nat.le_of_ble_eq_true rfl, Nat.le_of_ble_eq_true rfl⟩) 0 wM_0 rfl rfl rfl rfl (Nat.le_of_ble_eq_true rfl) ⟨Nat.zero_le _, Nat.zero_le _⟩ dX5_rescue_58 (fun u58 hu58 => ?_)
        show Gz pp l ee ({ frames := 2, cells := 0, slots := 0, locals := 44 } : Room) ss mm args below meth cd 3 0 0 Q (Zw D vwCl (va_A wst sz) ss (wM y a (stands (put f t 0 (brakeOf f (blockAt f (f (79 + 8 * t + 0))))) t) (svS sv f sm) ai tx (smS sm) ln th hh)) 61 [(2, .int (iZ (f (79 + 8 * t + 0)))), (0, .ref (a 0)), (1, .int (iZ t))] []
        refine z_aload_n mx mb dX5_rescue_61 rfl 1 rfl ?_
        refine z_iload_n mx mb dX5_rescue_62 rfl 0 rfl ?_
        refine z_callI0 (As := [.int (iZ (f (79 + 8 * t + 0)))]) (rest := []) ⟨mx, mb, mml, mo, mts⟩ hK hA (fun sz => c_X5_tells l D sz y a (stands (put f t 0 (brakeOf f (blockAt f (f (79 + 8 * t + 0))))) t) (svS sv f sm) ai tx (smS sm) ln th hh (f (79 + 8 * t + 0)) ) (cwV 1 mts gX5_rescue_X5_tells rfl rfl rfl (by decide +kernel) ⟨Nat.le_of_ble_eq_true rfl, Nat.le_of_ble_eq_true rfl⟩) 0 wM_0 rfl rfl rfl rfl (Nat.le_of_ble_eq_true rfl) ⟨Nat.zero_le _, Nat.zero_le _⟩ dX5_rescue_63 (fun r63 u63 hu63 => ?_)
        subst hu63
        show Gz pp l ee ({ frames := 2, cells := 0, slots := 0, locals := 44 } : Room) ss mm args below meth cd 3 0 0 Q (Zw D vwCl (va_A wst sz) ss (wM y a (stands (put f t 0 (brakeOf f (blockAt f (f (79 + 8 * t + 0))))) t) (svS sv f sm) ai tx (smS sm) ln 0 hh)) 66 [(2, .int (iZ (f (79 + 8 * t + 0)))), (0, .ref (a 0)), (1, .int (iZ t))] [.int (iZ (f (79 + 8 * t + 0)))]
        have hth : thRes f t = 0 := by unfold thRes; rw [if_pos hb, if_pos c21]
        rw [hQ]
        exact z_retI mx mb mr mlk hK () (by rw [hth]; rfl) (by rw [hth]; rfl) dX5_rescue_66
      · skip
        refine z_aload_n mx mb dX5_rescue_24 rfl 0 rfl ?_
        refine z_iconst mx mb dX5_rescue_25 ?_
        refine z_callI0 (As := [.int (iZ 2)]) (rest := []) ⟨mx, mb, mml, mo, mts⟩ hK hA (fun sz => c_X5_fails l D sz y a f sv ai tx sm ln th hh 2 ) (cwV 1 mts gX5_rescue_X5_fails rfl rfl rfl (by decide +kernel) ⟨Nat.le_of_ble_eq_true rfl, Nat.le_of_ble_eq_true rfl⟩) 0 wM_0 rfl rfl rfl rfl (Nat.le_of_ble_eq_true rfl) ⟨Nat.zero_le _, Nat.zero_le _⟩ dX5_rescue_26 (fun r26 u26 hu26 => ?_)
        subst hu26
        show Gz pp l ee ({ frames := 2, cells := 0, slots := 0, locals := 44 } : Room) ss mm args below meth cd 3 0 0 Q (Zw D vwCl (va_A wst sz) ss (wM y a f sv ai tx sm ln 2 hh)) 29 [(0, .ref (a 0)), (1, .int (iZ t))] [.int (iZ 0)]
        have hth : thRes f t = 2 := by unfold thRes; rw [if_pos hb, if_neg c21]
        rw [hQ]
        exact z_retI mx mb mr mlk hK () (by rw [hth]; rfl) (by rw [hth]; rfl) dX5_rescue_29
    · skip
      refine z_aload_n mx mb dX5_rescue_8 rfl 0 rfl ?_
      refine z_iconst mx mb dX5_rescue_9 ?_
      refine z_callI0 (As := [.int (iZ 1)]) (rest := []) ⟨mx, mb, mml, mo, mts⟩ hK hA (fun sz => c_X5_fails l D sz y a f sv ai tx sm ln th hh 1 ) (cwV 1 mts gX5_rescue_X5_fails rfl rfl rfl (by decide +kernel) ⟨Nat.le_of_ble_eq_true rfl, Nat.le_of_ble_eq_true rfl⟩) 0 wM_0 rfl rfl rfl rfl (Nat.le_of_ble_eq_true rfl) ⟨Nat.zero_le _, Nat.zero_le _⟩ dX5_rescue_10 (fun r10 u10 hu10 => ?_)
      subst hu10
      show Gz pp l ee ({ frames := 2, cells := 0, slots := 0, locals := 44 } : Room) ss mm args below meth cd 3 0 0 Q (Zw D vwCl (va_A wst sz) ss (wM y a f sv ai tx sm ln 1 hh)) 13 [(0, .ref (a 0)), (1, .int (iZ t))] [.int (iZ 0)]
      have hth : thRes f t = 1 := by unfold thRes; rw [if_neg (b2z_e c5)]
      rw [hQ]
      exact z_retI mx mb mr mlk hK () (by rw [hth]; rfl) (by rw [hth]; rfl) dX5_rescue_13
  subst hQ
  subst hw0
  exact hstart

theorem in_X5_set_X5 : ∀ w ∈ wsX50, w ∈ wsX5_set := by decide +kernel
set_option maxRecDepth 100000 in
set_option maxHeartbeats 4000000 in
theorem c_X5_set (l : Launch) (D : va_G) (sz : Nat) (y : Nat → ClassId) (a : Nat → Nat) (f sv ai tx : Int → Int) (sm ln th hh : Int) (w v : Int) (hw : -2147483648 ≤ w ∧ w ≤ 2147483647) (hv : -2147483648 ≤ v ∧ v ≤ 2147483647) (hI : Inv 100000 f) (hs : 0 ≤ sm ∧ sm ≤ 4) : Met l yX5_set wsX5_set ({ frames := 2, cells := 0, slots := 0, locals := 43 } : Room) (zPw D vwCl (zT y) (wM y a f sv ai tx sm ln th hh) sz [.ref (a 0), .int (iZ w), .int (iZ v)]) (va_Qi (fun (r : Int32) (_ : Unit) => r = iZ (if thSet w v = 0 then f (4 + w) else 0)) (zB D vwCl (zT y) (wM y a f sv ai tx sm ln th hh) sz (fun _ : Unit => wM y a (if thSet w v = 0 then zu f (4 + w) v else f) (if thSet w v = 0 then svS sv f sm else sv) ai tx (if thSet w v = 0 then smS sm else sm) ln (thSet w v) hh)) (va_A (wM y a f sv ai tx sm ln th hh) sz)) 0 0 (va_A (wM y a f sv ai tx sm ln th hh) sz) := by
  refine z_headW (cc := cX5_set) (maxL := 4) (ret := (some .int)) [(0, .ref (a 0)), (1, .int (iZ w)), (2, .int (iZ v))] rfl (Nat.le_of_ble_eq_true rfl) (by decide +kernel) rfl ?_
  intro pp ee ss mm below meth cd mx mb mr mml mo mts mlk hK hname hsz hA
  generalize ([.ref (a 0), .int (iZ w), .int (iZ v)] : List Value).toArray = args at mts ⊢
  obtain ⟨wst, hw0⟩ : ∃ wst, wst = wM y a f sv ai tx sm ln th hh := ⟨_, rfl⟩
  have hA : ∀ q, ss.heap.size ≤ q → va_A wst sz q := by rw [hw0]; exact hA
  obtain ⟨Q, hQ⟩ : ∃ Q, Q = MQ below (va_Qi (fun (r : Int32) (_ : Unit) => r = iZ (if thSet w v = 0 then f (4 + w) else 0)) (zB D vwCl (zT y) wst sz (fun _ : Unit => wM y a (if thSet w v = 0 then zu f (4 + w) v else f) (if thSet w v = 0 then svS sv f sm else sv) ai tx (if thSet w v = 0 then smS sm else sm) ln (thSet w v) hh)) (va_A wst sz)) args ss 0 0 (va_A wst sz) := ⟨_, rfl⟩
  have hstart : Gz pp l ee ({ frames := 2, cells := 0, slots := 0, locals := 43 } : Room) ss mm args below meth cd 4 0 0 Q (Zw D vwCl (va_A wst sz) ss (wM y a f sv ai tx sm ln th hh)) 0 [(0, .ref (a 0)), (1, .int (iZ w)), (2, .int (iZ v))] [] := by
    have hX : InvX f := ⟨_, hI, by omega⟩
    have hJ := hX.J
    obtain ⟨hW, hN, hT⟩ := hJ.f
    obtain ⟨w0, w1, w2, w3, w4, w5, w6⟩ := id hW
    obtain ⟨n3, n4, n5, n6, n7, n8, n9, n10⟩ := id hN
    refine z_iload_n mx mb dX5_set_0 rfl 1 rfl ?_
    refine z_iconst mx mb dX5_set_1 ?_
    refine z_iconst mx mb dX5_set_2 ?_
    refine z_callPS (As := [.int (iZ w), .int (iZ 0), .int (iZ 3)]) (rest := []) ⟨mx, mb, mml, mo, mts⟩ hK zgw (c_X5_in l D y w 0 3 (by omega) (by omega) (by omega)) (cwS 3 mts gX5_set_X5_in rfl rfl rfl (by decide +kernel) ⟨Nat.le_of_ble_eq_true rfl, Nat.le_of_ble_eq_true rfl⟩) (fun _ h => nomatch h) rfl rfl (Nat.le_of_ble_eq_true rfl) ⟨Nat.zero_le _, Nat.zero_le _⟩ dX5_set_3 ?_
    refine z_if_ne (tgt := 15) mx mb (b2z_rng _) dX5_set_6 (by decide) (fun c6 => ?_) (fun c6 => ?_)
    · skip
      have hb := b2z_ne c6
      refine z_iload_n mx mb dX5_set_15 rfl 1 rfl ?_
      refine z_iload_n mx mb dX5_set_16 rfl 2 rfl ?_
      refine z_callPS (As := [.int (iZ w), .int (iZ v)]) (rest := []) ⟨mx, mb, mml, mo, mts⟩ hK zgw (c_X5_canBe l D y w v (by omega) (by omega)) (cwS 2 mts gX5_set_X5_canBe rfl rfl rfl (by decide +kernel) ⟨Nat.le_of_ble_eq_true rfl, Nat.le_of_ble_eq_true rfl⟩) (fun _ h => nomatch h) rfl rfl (Nat.le_of_ble_eq_true rfl) ⟨Nat.zero_le _, Nat.zero_le _⟩ dX5_set_17 ?_
      refine z_if_ne (tgt := 29) mx mb (b2z_rng _) dX5_set_20 (by decide) (fun c20 => ?_) (fun c20 => ?_)
      · skip
        refine z_aload_n mx mb dX5_set_29 rfl 0 rfl ?_
        refine z_callV0 (As := []) (rest := []) ⟨mx, mb, mml, mo, mts⟩ hK hA (fun sz => c_X5_saves l D sz y a f sv ai tx sm ln th hh  (by omega)) (cwV 0 mts gX5_set_X5_saves rfl rfl rfl (by decide +kernel) ⟨Nat.le_of_ble_eq_true rfl, Nat.le_of_ble_eq_true rfl⟩) 0 wM_0 rfl rfl rfl rfl (Nat.le_of_ble_eq_true rfl) ⟨Nat.zero_le _, Nat.zero_le _⟩ dX5_set_30 (fun u30 hu30 => ?_)
        show Gz pp l ee ({ frames := 2, cells := 0, slots := 0, locals := 43 } : Room) ss mm args below meth cd 4 0 0 Q (Zw D vwCl (va_A wst sz) ss (wM y a f (svS sv f sm) ai tx (smS sm) ln th hh)) 33 [(0, .ref (a 0)), (1, .int (iZ w)), (2, .int (iZ v))] []
        refine z_aload_n mx mb dX5_set_33 rfl 0 rfl ?_
        refine z_get (C := RX5) (T := TX5) (N := 8) mx mb mts (in_X5_set_X5) mo hK zgw 0 wM_0 rfl 0 (by decide) (mts _ (List.mem_of_getElem? (i := 1) rfl)) (fun _ h9 => h9) rfl dX5_set_34 ?_
        refine z_iconst mx mb dX5_set_37 ?_
        refine z_iload_n mx mb dX5_set_38 rfl 1 rfl ?_
        refine z_iadd mx mb dX5_set_39 ?_
        refine z_iald mx mb hK zgw 1 0 wM_1 rfl (by decide) (by omega) dX5_set_40 ?_
        refine z_istore_n mx mb dX5_set_41 rfl (by decide) [(3, .int (iZ (f (4 + w)))), (0, .ref (a 0)), (1, .int (iZ w)), (2, .int (iZ v))] rfl ?_
        refine z_aload_n mx mb dX5_set_42 rfl 1 rfl ?_
        refine z_get (C := RX5) (T := TX5) (N := 8) mx mb mts (in_X5_set_X5) mo hK zgw 0 wM_0 rfl 0 (by decide) (mts _ (List.mem_of_getElem? (i := 1) rfl)) (fun _ h9 => h9) rfl dX5_set_43 ?_
        refine z_iconst mx mb dX5_set_46 ?_
        refine z_iload_n mx mb dX5_set_47 rfl 2 rfl ?_
        refine z_iadd mx mb dX5_set_48 ?_
        refine z_iload_n mx mb dX5_set_49 rfl 3 rfl ?_
        refine z_iast mx mb hK 1 0 wM_1 rfl (by decide) (by omega) dX5_set_50 (wM y a (zu f (4 + w) v) (svS sv f sm) ai tx (smS sm) ln th hh) wM_s1 ?_
        refine z_aload_n mx mb dX5_set_51 rfl 1 rfl ?_
        refine z_iload_n mx mb dX5_set_52 rfl 0 rfl ?_
        refine z_callI0 (As := [.int (iZ (f (4 + w)))]) (rest := []) ⟨mx, mb, mml, mo, mts⟩ hK hA (fun sz => c_X5_tells l D sz y a (zu f (4 + w) v) (svS sv f sm) ai tx (smS sm) ln th hh (f (4 + w)) ) (cwV 1 mts gX5_set_X5_tells rfl rfl rfl (by decide +kernel) ⟨Nat.le_of_ble_eq_true rfl, Nat.le_of_ble_eq_true rfl⟩) 0 wM_0 rfl rfl rfl rfl (Nat.le_of_ble_eq_true rfl) ⟨Nat.zero_le _, Nat.zero_le _⟩ dX5_set_53 (fun r53 u53 hu53 => ?_)
        subst hu53
        show Gz pp l ee ({ frames := 2, cells := 0, slots := 0, locals := 43 } : Room) ss mm args below meth cd 4 0 0 Q (Zw D vwCl (va_A wst sz) ss (wM y a (zu f (4 + w) v) (svS sv f sm) ai tx (smS sm) ln 0 hh)) 56 [(3, .int (iZ (f (4 + w)))), (0, .ref (a 0)), (1, .int (iZ w)), (2, .int (iZ v))] [.int (iZ (f (4 + w)))]
        have hth : thSet w v = 0 := by unfold thSet canBe; rw [if_pos hb, if_pos (decide_eq_true (b2z_ne c20))]
        rw [hQ]
        exact z_retI mx mb mr mlk hK () (by rw [hth]; rfl) (by rw [hth]; rfl) dX5_set_56
      · skip
        refine z_aload_n mx mb dX5_set_23 rfl 0 rfl ?_
        refine z_iconst mx mb dX5_set_24 ?_
        refine z_callI0 (As := [.int (iZ 2)]) (rest := []) ⟨mx, mb, mml, mo, mts⟩ hK hA (fun sz => c_X5_fails l D sz y a f sv ai tx sm ln th hh 2 ) (cwV 1 mts gX5_set_X5_fails rfl rfl rfl (by decide +kernel) ⟨Nat.le_of_ble_eq_true rfl, Nat.le_of_ble_eq_true rfl⟩) 0 wM_0 rfl rfl rfl rfl (Nat.le_of_ble_eq_true rfl) ⟨Nat.zero_le _, Nat.zero_le _⟩ dX5_set_25 (fun r25 u25 hu25 => ?_)
        subst hu25
        show Gz pp l ee ({ frames := 2, cells := 0, slots := 0, locals := 43 } : Room) ss mm args below meth cd 4 0 0 Q (Zw D vwCl (va_A wst sz) ss (wM y a f sv ai tx sm ln 2 hh)) 28 [(0, .ref (a 0)), (1, .int (iZ w)), (2, .int (iZ v))] [.int (iZ 0)]
        have hth : thSet w v = 2 := by unfold thSet canBe; rw [if_pos hb, if_neg (fun q => b2z_e c20 (of_decide_eq_true q))]
        rw [hQ]
        exact z_retI mx mb mr mlk hK () (by rw [hth]; rfl) (by rw [hth]; rfl) dX5_set_28
    · skip
      refine z_aload_n mx mb dX5_set_9 rfl 0 rfl ?_
      refine z_iconst mx mb dX5_set_10 ?_
      refine z_callI0 (As := [.int (iZ 1)]) (rest := []) ⟨mx, mb, mml, mo, mts⟩ hK hA (fun sz => c_X5_fails l D sz y a f sv ai tx sm ln th hh 1 ) (cwV 1 mts gX5_set_X5_fails rfl rfl rfl (by decide +kernel) ⟨Nat.le_of_ble_eq_true rfl, Nat.le_of_ble_eq_true rfl⟩) 0 wM_0 rfl rfl rfl rfl (Nat.le_of_ble_eq_true rfl) ⟨Nat.zero_le _, Nat.zero_le _⟩ dX5_set_11 (fun r11 u11 hu11 => ?_)
      subst hu11
      show Gz pp l ee ({ frames := 2, cells := 0, slots := 0, locals := 43 } : Room) ss mm args below meth cd 4 0 0 Q (Zw D vwCl (va_A wst sz) ss (wM y a f sv ai tx sm ln 1 hh)) 14 [(0, .ref (a 0)), (1, .int (iZ w)), (2, .int (iZ v))] [.int (iZ 0)]
      have hth : thSet w v = 1 := by unfold thSet; rw [if_neg (b2z_e c6)]
      rw [hQ]
      exact z_retI mx mb mr mlk hK () (by rw [hth]; rfl) (by rw [hth]; rfl) dX5_set_14
  subst hQ
  subst hw0
  exact hstart

theorem in_X5_setHeight_X5 : ∀ w ∈ wsX50, w ∈ wsX5_setHeight := by decide +kernel
set_option maxRecDepth 100000 in
set_option maxHeartbeats 4000000 in
theorem c_X5_setHeight (l : Launch) (D : va_G) (sz : Nat) (y : Nat → ClassId) (a : Nat → Nat) (f sv ai tx : Int → Int) (sm ln th hh : Int) (c z : Int) (hc : -2147483648 ≤ c ∧ c ≤ 2147483647) (hz : -2147483648 ≤ z ∧ z ≤ 2147483647) (hI : Inv 100000 f) (hs : 0 ≤ sm ∧ sm ≤ 4) : Met l yX5_setHeight wsX5_setHeight ({ frames := 2, cells := 0, slots := 0, locals := 43 } : Room) (zPw D vwCl (zT y) (wM y a f sv ai tx sm ln th hh) sz [.ref (a 0), .int (iZ c), .int (iZ z)]) (va_Qi (fun (r : Int32) (_ : Unit) => r = iZ (if thHgt f c z = 0 then f (11 + c) else 0)) (zB D vwCl (zT y) (wM y a f sv ai tx sm ln th hh) sz (fun _ : Unit => wM y a (if thHgt f c z = 0 then zu f (11 + c) z else f) (if thHgt f c z = 0 then svS sv f sm else sv) ai tx (if thHgt f c z = 0 then smS sm else sm) ln (thHgt f c z) hh)) (va_A (wM y a f sv ai tx sm ln th hh) sz)) 0 0 (va_A (wM y a f sv ai tx sm ln th hh) sz) := by
  refine z_headW (cc := cX5_setHeight) (maxL := 4) (ret := (some .int)) [(0, .ref (a 0)), (1, .int (iZ c)), (2, .int (iZ z))] rfl (Nat.le_of_ble_eq_true rfl) (by decide +kernel) rfl ?_
  intro pp ee ss mm below meth cd mx mb mr mml mo mts mlk hK hname hsz hA
  generalize ([.ref (a 0), .int (iZ c), .int (iZ z)] : List Value).toArray = args at mts ⊢
  obtain ⟨wst, hw0⟩ : ∃ wst, wst = wM y a f sv ai tx sm ln th hh := ⟨_, rfl⟩
  have hA : ∀ q, ss.heap.size ≤ q → va_A wst sz q := by rw [hw0]; exact hA
  obtain ⟨Q, hQ⟩ : ∃ Q, Q = MQ below (va_Qi (fun (r : Int32) (_ : Unit) => r = iZ (if thHgt f c z = 0 then f (11 + c) else 0)) (zB D vwCl (zT y) wst sz (fun _ : Unit => wM y a (if thHgt f c z = 0 then zu f (11 + c) z else f) (if thHgt f c z = 0 then svS sv f sm else sv) ai tx (if thHgt f c z = 0 then smS sm else sm) ln (thHgt f c z) hh)) (va_A wst sz)) args ss 0 0 (va_A wst sz) := ⟨_, rfl⟩
  have hstart : Gz pp l ee ({ frames := 2, cells := 0, slots := 0, locals := 43 } : Room) ss mm args below meth cd 4 0 0 Q (Zw D vwCl (va_A wst sz) ss (wM y a f sv ai tx sm ln th hh)) 0 [(0, .ref (a 0)), (1, .int (iZ c)), (2, .int (iZ z))] [] := by
    have hX : InvX f := ⟨_, hI, by omega⟩
    have hJ := hX.J
    obtain ⟨hW, hN, hT⟩ := hJ.f
    obtain ⟨w0, w1, w2, w3, w4, w5, w6⟩ := id hW
    obtain ⟨n3, n4, n5, n6, n7, n8, n9, n10⟩ := id hN
    refine z_aload_n mx mb dX5_setHeight_0 rfl 0 rfl ?_
    refine z_iload_n mx mb dX5_setHeight_1 rfl 1 rfl ?_
    refine z_callP (As := [.int (iZ c)]) (rest := []) ⟨mx, mb, mml, mo, mts⟩ hK zgw (c_X5_isCell l D y a f sv ai tx sm ln th hh c (by omega) (by omega)) (cwV 1 mts gX5_setHeight_X5_isCell rfl rfl rfl (by decide +kernel) ⟨Nat.le_of_ble_eq_true rfl, Nat.le_of_ble_eq_true rfl⟩) (fun _ h => h) 0 wM_0 rfl rfl rfl rfl (Nat.le_of_ble_eq_true rfl) ⟨Nat.zero_le _, Nat.zero_le _⟩ dX5_setHeight_2 ?_
    refine z_if_ne (tgt := 14) mx mb (b2z_rng _) dX5_setHeight_5 (by decide) (fun c5 => ?_) (fun c5 => ?_)
    · skip
      have hb := b2z_ne c5
      refine z_iload_n mx mb dX5_setHeight_14 rfl 2 rfl ?_
      refine z_iconst mx mb dX5_setHeight_15 ?_
      refine z_bipush mx mb dX5_setHeight_16 (by decide +kernel) ?_
      refine z_callPS (As := [.int (iZ z), .int (iZ 0), .int (iZ 9)]) (rest := []) ⟨mx, mb, mml, mo, mts⟩ hK zgw (c_X5_in l D y z 0 9 (by omega) (by omega) (by omega)) (cwS 3 mts gX5_setHeight_X5_in rfl rfl rfl (by decide +kernel) ⟨Nat.le_of_ble_eq_true rfl, Nat.le_of_ble_eq_true rfl⟩) (fun _ h => nomatch h) rfl rfl (Nat.le_of_ble_eq_true rfl) ⟨Nat.zero_le _, Nat.zero_le _⟩ dX5_setHeight_18 ?_
      refine z_if_ne (tgt := 30) mx mb (b2z_rng _) dX5_setHeight_21 (by decide) (fun c21 => ?_) (fun c21 => ?_)
      · skip
        have hb2 := b2z_ne c21
        refine z_aload_n mx mb dX5_setHeight_30 rfl 0 rfl ?_
        refine z_callV0 (As := []) (rest := []) ⟨mx, mb, mml, mo, mts⟩ hK hA (fun sz => c_X5_saves l D sz y a f sv ai tx sm ln th hh  (by omega)) (cwV 0 mts gX5_setHeight_X5_saves rfl rfl rfl (by decide +kernel) ⟨Nat.le_of_ble_eq_true rfl, Nat.le_of_ble_eq_true rfl⟩) 0 wM_0 rfl rfl rfl rfl (Nat.le_of_ble_eq_true rfl) ⟨Nat.zero_le _, Nat.zero_le _⟩ dX5_setHeight_31 (fun u31 hu31 => ?_)
        show Gz pp l ee ({ frames := 2, cells := 0, slots := 0, locals := 43 } : Room) ss mm args below meth cd 4 0 0 Q (Zw D vwCl (va_A wst sz) ss (wM y a f (svS sv f sm) ai tx (smS sm) ln th hh)) 34 [(0, .ref (a 0)), (1, .int (iZ c)), (2, .int (iZ z))] []
        refine z_aload_n mx mb dX5_setHeight_34 rfl 0 rfl ?_
        refine z_get (C := RX5) (T := TX5) (N := 8) mx mb mts (in_X5_setHeight_X5) mo hK zgw 0 wM_0 rfl 0 (by decide) (mts _ (List.mem_of_getElem? (i := 1) rfl)) (fun _ h9 => h9) rfl dX5_setHeight_35 ?_
        refine z_bipush mx mb dX5_setHeight_38 (by decide +kernel) ?_
        refine z_iload_n mx mb dX5_setHeight_40 rfl 1 rfl ?_
        refine z_iadd mx mb dX5_setHeight_41 ?_
        refine z_iald mx mb hK zgw 1 0 wM_1 rfl (by decide) (by omega) dX5_setHeight_42 ?_
        refine z_istore_n mx mb dX5_setHeight_43 rfl (by decide) [(3, .int (iZ (f (11 + c)))), (0, .ref (a 0)), (1, .int (iZ c)), (2, .int (iZ z))] rfl ?_
        refine z_aload_n mx mb dX5_setHeight_44 rfl 1 rfl ?_
        refine z_get (C := RX5) (T := TX5) (N := 8) mx mb mts (in_X5_setHeight_X5) mo hK zgw 0 wM_0 rfl 0 (by decide) (mts _ (List.mem_of_getElem? (i := 1) rfl)) (fun _ h9 => h9) rfl dX5_setHeight_45 ?_
        refine z_bipush mx mb dX5_setHeight_48 (by decide +kernel) ?_
        refine z_iload_n mx mb dX5_setHeight_50 rfl 2 rfl ?_
        refine z_iadd mx mb dX5_setHeight_51 ?_
        refine z_iload_n mx mb dX5_setHeight_52 rfl 3 rfl ?_
        refine z_iast mx mb hK 1 0 wM_1 rfl (by decide) (by omega) dX5_setHeight_53 (wM y a (zu f (11 + c) z) (svS sv f sm) ai tx (smS sm) ln th hh) wM_s1 ?_
        refine z_aload_n mx mb dX5_setHeight_54 rfl 1 rfl ?_
        refine z_iload_n mx mb dX5_setHeight_55 rfl 0 rfl ?_
        refine z_callI0 (As := [.int (iZ (f (11 + c)))]) (rest := []) ⟨mx, mb, mml, mo, mts⟩ hK hA (fun sz => c_X5_tells l D sz y a (zu f (11 + c) z) (svS sv f sm) ai tx (smS sm) ln th hh (f (11 + c)) ) (cwV 1 mts gX5_setHeight_X5_tells rfl rfl rfl (by decide +kernel) ⟨Nat.le_of_ble_eq_true rfl, Nat.le_of_ble_eq_true rfl⟩) 0 wM_0 rfl rfl rfl rfl (Nat.le_of_ble_eq_true rfl) ⟨Nat.zero_le _, Nat.zero_le _⟩ dX5_setHeight_56 (fun r56 u56 hu56 => ?_)
        subst hu56
        show Gz pp l ee ({ frames := 2, cells := 0, slots := 0, locals := 43 } : Room) ss mm args below meth cd 4 0 0 Q (Zw D vwCl (va_A wst sz) ss (wM y a (zu f (11 + c) z) (svS sv f sm) ai tx (smS sm) ln 0 hh)) 59 [(3, .int (iZ (f (11 + c)))), (0, .ref (a 0)), (1, .int (iZ c)), (2, .int (iZ z))] [.int (iZ (f (11 + c)))]
        have hth : thHgt f c z = 0 := by unfold thHgt; rw [if_pos hb, if_pos hb2]
        rw [hQ]
        exact z_retI mx mb mr mlk hK () (by rw [hth]; rfl) (by rw [hth]; rfl) dX5_setHeight_59
      · skip
        refine z_aload_n mx mb dX5_setHeight_24 rfl 0 rfl ?_
        refine z_iconst mx mb dX5_setHeight_25 ?_
        refine z_callI0 (As := [.int (iZ 2)]) (rest := []) ⟨mx, mb, mml, mo, mts⟩ hK hA (fun sz => c_X5_fails l D sz y a f sv ai tx sm ln th hh 2 ) (cwV 1 mts gX5_setHeight_X5_fails rfl rfl rfl (by decide +kernel) ⟨Nat.le_of_ble_eq_true rfl, Nat.le_of_ble_eq_true rfl⟩) 0 wM_0 rfl rfl rfl rfl (Nat.le_of_ble_eq_true rfl) ⟨Nat.zero_le _, Nat.zero_le _⟩ dX5_setHeight_26 (fun r26 u26 hu26 => ?_)
        subst hu26
        show Gz pp l ee ({ frames := 2, cells := 0, slots := 0, locals := 43 } : Room) ss mm args below meth cd 4 0 0 Q (Zw D vwCl (va_A wst sz) ss (wM y a f sv ai tx sm ln 2 hh)) 29 [(0, .ref (a 0)), (1, .int (iZ c)), (2, .int (iZ z))] [.int (iZ 0)]
        have hth : thHgt f c z = 2 := by unfold thHgt; rw [if_pos hb, if_neg (b2z_e c21)]
        rw [hQ]
        exact z_retI mx mb mr mlk hK () (by rw [hth]; rfl) (by rw [hth]; rfl) dX5_setHeight_29
    · skip
      refine z_aload_n mx mb dX5_setHeight_8 rfl 0 rfl ?_
      refine z_iconst mx mb dX5_setHeight_9 ?_
      refine z_callI0 (As := [.int (iZ 1)]) (rest := []) ⟨mx, mb, mml, mo, mts⟩ hK hA (fun sz => c_X5_fails l D sz y a f sv ai tx sm ln th hh 1 ) (cwV 1 mts gX5_setHeight_X5_fails rfl rfl rfl (by decide +kernel) ⟨Nat.le_of_ble_eq_true rfl, Nat.le_of_ble_eq_true rfl⟩) 0 wM_0 rfl rfl rfl rfl (Nat.le_of_ble_eq_true rfl) ⟨Nat.zero_le _, Nat.zero_le _⟩ dX5_setHeight_10 (fun r10 u10 hu10 => ?_)
      subst hu10
      show Gz pp l ee ({ frames := 2, cells := 0, slots := 0, locals := 43 } : Room) ss mm args below meth cd 4 0 0 Q (Zw D vwCl (va_A wst sz) ss (wM y a f sv ai tx sm ln 1 hh)) 13 [(0, .ref (a 0)), (1, .int (iZ c)), (2, .int (iZ z))] [.int (iZ 0)]
      have hth : thHgt f c z = 1 := by unfold thHgt; rw [if_neg (b2z_e c5)]
      rw [hQ]
      exact z_retI mx mb mr mlk hK () (by rw [hth]; rfl) (by rw [hth]; rfl) dX5_setHeight_13
  subst hQ
  subst hw0
  exact hstart

theorem in_X5_pass_X5 : ∀ w ∈ wsX50, w ∈ wsX5_pass := by decide +kernel
set_option maxRecDepth 100000 in
set_option maxHeartbeats 4000000 in
theorem c_X5_pass (l : Launch) (D : va_G) (sz : Nat) (y : Nat → ClassId) (a : Nat → Nat) (f sv ai tx : Int → Int) (sm ln th hh : Int) (n : Int) (hn : -2147483648 ≤ n ∧ n ≤ 2147483647) (hI : Inv 100000 f) (hs : 0 ≤ sm ∧ sm ≤ 4) : Met l yX5_pass wsX5_pass ({ frames := 7, cells := 0, slots := 0, locals := 159 } : Room) (zPw D vwCl (zT y) (wM y a f sv ai tx sm ln th hh) sz [.ref (a 0), .int (iZ n)]) (va_Qi (fun (r : Int32) (_ : Unit) => r = iZ (if thPass f n = 0 then ticks f n.toNat 8 - f 8 else 0)) (zB D vwCl (zT y) (wM y a f sv ai tx sm ln th hh) sz (fun _ : Unit => wM y a (if thPass f n = 0 then ticks f n.toNat else f) (if thPass f n = 0 then svS sv f sm else sv) ai tx (if thPass f n = 0 then smS sm else sm) ln (thPass f n) hh)) (va_A (wM y a f sv ai tx sm ln th hh) sz)) 0 0 (va_A (wM y a f sv ai tx sm ln th hh) sz) := by
  refine z_headW (cc := cX5_pass) (maxL := 4) (ret := (some .int)) [(0, .ref (a 0)), (1, .int (iZ n))] rfl (Nat.le_of_ble_eq_true rfl) (by decide +kernel) rfl ?_
  intro pp ee ss mm below meth cd mx mb mr mml mo mts mlk hK hname hsz hA
  generalize ([.ref (a 0), .int (iZ n)] : List Value).toArray = args at mts ⊢
  obtain ⟨wst, hw0⟩ : ∃ wst, wst = wM y a f sv ai tx sm ln th hh := ⟨_, rfl⟩
  have hA : ∀ q, ss.heap.size ≤ q → va_A wst sz q := by rw [hw0]; exact hA
  obtain ⟨Q, hQ⟩ : ∃ Q, Q = MQ below (va_Qi (fun (r : Int32) (_ : Unit) => r = iZ (if thPass f n = 0 then ticks f n.toNat 8 - f 8 else 0)) (zB D vwCl (zT y) wst sz (fun _ : Unit => wM y a (if thPass f n = 0 then ticks f n.toNat else f) (if thPass f n = 0 then svS sv f sm else sv) ai tx (if thPass f n = 0 then smS sm else sm) ln (thPass f n) hh)) (va_A wst sz)) args ss 0 0 (va_A wst sz) := ⟨_, rfl⟩
  have hstart : Gz pp l ee ({ frames := 7, cells := 0, slots := 0, locals := 159 } : Room) ss mm args below meth cd 4 0 0 Q (Zw D vwCl (va_A wst sz) ss (wM y a f sv ai tx sm ln th hh)) 0 [(0, .ref (a 0)), (1, .int (iZ n))] [] := by
    have hX : InvX f := ⟨_, hI, by omega⟩
    have hJ := hX.J
    obtain ⟨hW, hN, hT⟩ := hJ.f
    obtain ⟨w0, w1, w2, w3, w4, w5, w6⟩ := id hW
    obtain ⟨n3, n4, n5, n6, n7, n8, n9, n10⟩ := id hN
    refine z_iload_n mx mb dX5_pass_0 rfl 1 rfl ?_
    refine z_iconst mx mb dX5_pass_1 ?_
    refine z_sipush mx mb dX5_pass_2 (by decide +kernel) ?_
    refine z_callPS (As := [.int (iZ n), .int (iZ 1), .int (iZ 500)]) (rest := []) ⟨mx, mb, mml, mo, mts⟩ hK zgw (c_X5_in l D y n 1 500 (by omega) (by omega) (by omega)) (cwS 3 mts gX5_pass_X5_in rfl rfl rfl (by decide +kernel) ⟨Nat.le_of_ble_eq_true rfl, Nat.le_of_ble_eq_true rfl⟩) (fun _ h => nomatch h) rfl rfl (Nat.le_of_ble_eq_true rfl) ⟨Nat.zero_le _, Nat.zero_le _⟩ dX5_pass_5 ?_
    refine z_if_ne (tgt := 17) mx mb (b2z_rng _) dX5_pass_8 (by decide) (fun c8 => ?_) (fun c8 => ?_)
    · skip
      have hb := b2z_ne c8
      refine z_aload_n mx mb dX5_pass_17 rfl 0 rfl ?_
      refine z_get (C := RX5) (T := TX5) (N := 8) mx mb mts (in_X5_pass_X5) mo hK zgw 0 wM_0 rfl 0 (by decide) (mts _ (List.mem_of_getElem? (i := 1) rfl)) (fun _ h9 => h9) rfl dX5_pass_18 ?_
      refine z_iconst mx mb dX5_pass_21 ?_
      refine z_iald mx mb hK zgw 1 0 wM_1 rfl (by decide) (by omega) dX5_pass_22 ?_
      refine z_iload_n mx mb dX5_pass_23 rfl 1 rfl ?_
      refine z_iadd mx mb dX5_pass_24 ?_
      refine z_ldc (z := 100000) mx mb mo (mts _ (List.mem_of_getElem? (i := 2) rfl)) (by decide +kernel) dX5_pass_25 ?_
      refine z_icmp_le (tgt := 36) mx mb (by omega) (by omega) dX5_pass_27 (by decide) (fun c27 => ?_) (fun c27 => ?_)
      · skip
        refine z_aload_n mx mb dX5_pass_36 rfl 0 rfl ?_
        refine z_callV0 (As := []) (rest := []) ⟨mx, mb, mml, mo, mts⟩ hK hA (fun sz => c_X5_saves l D sz y a f sv ai tx sm ln th hh  (by omega)) (cwV 0 mts gX5_pass_X5_saves rfl rfl rfl (by decide +kernel) ⟨Nat.le_of_ble_eq_true rfl, Nat.le_of_ble_eq_true rfl⟩) 0 wM_0 rfl rfl rfl rfl (Nat.le_of_ble_eq_true rfl) ⟨Nat.zero_le _, Nat.zero_le _⟩ dX5_pass_37 (fun u37 hu37 => ?_)
        show Gz pp l ee ({ frames := 7, cells := 0, slots := 0, locals := 159 } : Room) ss mm args below meth cd 4 0 0 Q (Zw D vwCl (va_A wst sz) ss (wM y a f (svS sv f sm) ai tx (smS sm) ln th hh)) 40 [(0, .ref (a 0)), (1, .int (iZ n))] []
        refine z_aload_n mx mb dX5_pass_40 rfl 0 rfl ?_
        refine z_get (C := RX5) (T := TX5) (N := 8) mx mb mts (in_X5_pass_X5) mo hK zgw 0 wM_0 rfl 0 (by decide) (mts _ (List.mem_of_getElem? (i := 1) rfl)) (fun _ h9 => h9) rfl dX5_pass_41 ?_
        refine z_bipush mx mb dX5_pass_44 (by decide +kernel) ?_
        refine z_iald mx mb hK zgw 1 0 wM_1 rfl (by decide) (by omega) dX5_pass_46 ?_
        refine z_istore_n mx mb dX5_pass_47 rfl (by decide) [(2, .int (iZ (f 8))), (0, .ref (a 0)), (1, .int (iZ n))] rfl ?_
        refine z_iconst mx mb dX5_pass_48 ?_
        refine z_istore_n mx mb dX5_pass_49 rfl (by decide) [(3, .int (iZ 0)), (2, .int (iZ (f 8))), (0, .ref (a 0)), (1, .int (iZ n))] rfl ?_
        have lp50 : ∀ (nn : Nat) (i : Nat) (x3 : Int) (g : Int → Int), n.toNat - i < nn → ((i : Int) ≤ n) → (x3 = (i : Int)) → (g = ticks f i) → Gz pp l ee ({ frames := 7, cells := 0, slots := 0, locals := 159 } : Room) ss mm args below meth cd 4 0 0 Q (Zw D vwCl (va_A wst sz) ss (wM y a g (svS sv f sm) ai tx (smS sm) ln th hh)) 50 [(0, .ref (a 0)), (1, .int (iZ n)), (2, .int (iZ (f 8))), (3, .int (iZ x3))] [] := by
          intro nn
          induction nn with
          | zero => exact fun i x3 g hm => absurd hm (Nat.not_lt_zero _)
          | succ nn ih =>
            intro i x3 g hm hi e1 eg
            have tiX : InvX g := by rw [eg]; exact ⟨_, (ticks_inv hI i (by omega)).1, by omega⟩
            refine z_iload_n mx mb dX5_pass_50 rfl 3 rfl ?_
            refine z_iload_n mx mb dX5_pass_51 rfl 1 rfl ?_
            refine z_icmp_ge (tgt := 65) mx mb (by omega) (by omega) dX5_pass_52 (by decide) (fun c52 => ?_) (fun c52 => ?_)
            · skip
              have hi5 : i = n.toNat := by omega
              refine z_aload_n mx mb dX5_pass_65 rfl 0 rfl ?_
              refine z_aload_n mx mb dX5_pass_66 rfl 0 rfl ?_
              refine z_get (C := RX5) (T := TX5) (N := 8) mx mb mts (in_X5_pass_X5) mo hK zgw 0 wM_0 rfl 0 (by decide) (mts _ (List.mem_of_getElem? (i := 1) rfl)) (fun _ h9 => h9) rfl dX5_pass_67 ?_
              refine z_bipush mx mb dX5_pass_70 (by decide +kernel) ?_
              refine z_iald mx mb hK zgw 1 0 wM_1 rfl (by decide) (by omega) dX5_pass_72 ?_
              refine z_iload_n mx mb dX5_pass_73 rfl 2 rfl ?_
              refine z_isub mx mb dX5_pass_74 ?_
              refine z_callI0 (As := [.int (iZ ((g 8) - (f 8)))]) (rest := []) ⟨mx, mb, mml, mo, mts⟩ hK hA (fun sz => c_X5_tells l D sz y a g (svS sv f sm) ai tx (smS sm) ln th hh ((g 8) - (f 8)) ) (cwV 1 mts gX5_pass_X5_tells rfl rfl rfl (by decide +kernel) ⟨Nat.le_of_ble_eq_true rfl, Nat.le_of_ble_eq_true rfl⟩) 0 wM_0 rfl rfl rfl rfl (Nat.le_of_ble_eq_true rfl) ⟨Nat.zero_le _, Nat.zero_le _⟩ dX5_pass_75 (fun r75 u75 hu75 => ?_)
              subst hu75
              show Gz pp l ee ({ frames := 7, cells := 0, slots := 0, locals := 159 } : Room) ss mm args below meth cd 4 0 0 Q (Zw D vwCl (va_A wst sz) ss (wM y a g (svS sv f sm) ai tx (smS sm) ln 0 hh)) 78 [(0, .ref (a 0)), (1, .int (iZ n)), (2, .int (iZ (f 8))), (3, .int (iZ x3))] [.int (iZ ((g 8) - (f 8)))]
              have hth : thPass f n = 0 := by unfold thPass; rw [if_pos hb, if_neg (by omega)]
              rw [hQ]
              exact z_retI mx mb mr mlk hK () (by rw [hth, eg, hi5]; rfl) (by rw [hth, eg, hi5]; rfl) dX5_pass_78
            · skip
              refine z_aload_n mx mb dX5_pass_55 rfl 0 rfl ?_
              refine z_callV0 (As := []) (rest := []) ⟨mx, mb, mml, mo, mts⟩ hK hA (fun sz => c_X5_tick l D sz y a g (svS sv f sm) ai tx (smS sm) ln th hh  (by assumption)) (cwV 0 mts gX5_pass_X5_tick rfl rfl rfl (by decide +kernel) ⟨Nat.le_of_ble_eq_true rfl, Nat.le_of_ble_eq_true rfl⟩) 0 wM_0 rfl rfl rfl rfl (Nat.le_of_ble_eq_true rfl) ⟨Nat.zero_le _, Nat.zero_le _⟩ dX5_pass_56 (fun u56 hu56 => ?_)
              show Gz pp l ee ({ frames := 7, cells := 0, slots := 0, locals := 159 } : Room) ss mm args below meth cd 4 0 0 Q (Zw D vwCl (va_A wst sz) ss (wM y a (tick g) (svS sv f sm) ai tx (smS sm) ln th hh)) 59 [(0, .ref (a 0)), (1, .int (iZ n)), (2, .int (iZ (f 8))), (3, .int (iZ x3))] []
              refine z_iinc mx mb dX5_pass_59 3 rfl (by decide) [(3, .int (iZ (x3 + 1))), (0, .ref (a 0)), (1, .int (iZ n)), (2, .int (iZ (f 8)))] rfl ?_
              refine z_goto (tgt := 50) mx mb dX5_pass_62 (by decide) ?_
              refine z_lv [1, 2, 3, 0] rfl ?_
              exact ih (i + 1) _ _ (by omega) (by omega) (by omega) (by rw [eg]; rfl)
        refine z_lv [2, 3, 1, 0] rfl ?_
        exact lp50 _ 0 0 f (Nat.lt_succ_self _) (by omega) (by rfl) (by rfl)
      · skip
        refine z_aload_n mx mb dX5_pass_30 rfl 0 rfl ?_
        refine z_iconst mx mb dX5_pass_31 ?_
        refine z_callI0 (As := [.int (iZ 2)]) (rest := []) ⟨mx, mb, mml, mo, mts⟩ hK hA (fun sz => c_X5_fails l D sz y a f sv ai tx sm ln th hh 2 ) (cwV 1 mts gX5_pass_X5_fails rfl rfl rfl (by decide +kernel) ⟨Nat.le_of_ble_eq_true rfl, Nat.le_of_ble_eq_true rfl⟩) 0 wM_0 rfl rfl rfl rfl (Nat.le_of_ble_eq_true rfl) ⟨Nat.zero_le _, Nat.zero_le _⟩ dX5_pass_32 (fun r32 u32 hu32 => ?_)
        subst hu32
        show Gz pp l ee ({ frames := 7, cells := 0, slots := 0, locals := 159 } : Room) ss mm args below meth cd 4 0 0 Q (Zw D vwCl (va_A wst sz) ss (wM y a f sv ai tx sm ln 2 hh)) 35 [(0, .ref (a 0)), (1, .int (iZ n))] [.int (iZ 0)]
        have hth : thPass f n = 2 := by unfold thPass; rw [if_pos hb, if_pos c27]
        rw [hQ]
        exact z_retI mx mb mr mlk hK () (by rw [hth]; rfl) (by rw [hth]; rfl) dX5_pass_35
    · skip
      refine z_aload_n mx mb dX5_pass_11 rfl 0 rfl ?_
      refine z_iconst mx mb dX5_pass_12 ?_
      refine z_callI0 (As := [.int (iZ 1)]) (rest := []) ⟨mx, mb, mml, mo, mts⟩ hK hA (fun sz => c_X5_fails l D sz y a f sv ai tx sm ln th hh 1 ) (cwV 1 mts gX5_pass_X5_fails rfl rfl rfl (by decide +kernel) ⟨Nat.le_of_ble_eq_true rfl, Nat.le_of_ble_eq_true rfl⟩) 0 wM_0 rfl rfl rfl rfl (Nat.le_of_ble_eq_true rfl) ⟨Nat.zero_le _, Nat.zero_le _⟩ dX5_pass_13 (fun r13 u13 hu13 => ?_)
      subst hu13
      show Gz pp l ee ({ frames := 7, cells := 0, slots := 0, locals := 159 } : Room) ss mm args below meth cd 4 0 0 Q (Zw D vwCl (va_A wst sz) ss (wM y a f sv ai tx sm ln 1 hh)) 16 [(0, .ref (a 0)), (1, .int (iZ n))] [.int (iZ 0)]
      have hth : thPass f n = 1 := by unfold thPass; rw [if_neg (b2z_e c8)]
      rw [hQ]
      exact z_retI mx mb mr mlk hK () (by rw [hth]; rfl) (by rw [hth]; rfl) dX5_pass_16
  subst hQ
  subst hw0
  exact hstart

theorem in_X5_undo_X5 : ∀ w ∈ wsX50, w ∈ wsX5_undo := by decide +kernel
set_option maxRecDepth 100000 in
set_option maxHeartbeats 4000000 in
theorem c_X5_undo (l : Launch) (D : va_G) (sz : Nat) (y : Nat → ClassId) (a : Nat → Nat) (f sv ai tx : Int → Int) (sm ln th hh : Int) (hs : 0 ≤ sm ∧ sm ≤ 4) : Met l yX5_undo wsX5_undo ({ frames := 1, cells := 0, slots := 0, locals := 21 } : Room) (zPw D vwCl (zT y) (wM y a f sv ai tx sm ln th hh) sz [.ref (a 0)]) (va_Qi (fun (r : Int32) (_ : Unit) => r = iZ (if sm = 0 then 0 else sm - 1)) (zB D vwCl (zT y) (wM y a f sv ai tx sm ln th hh) sz (fun _ : Unit => wM y a (if sm = 0 then f else cpO f sv (171 * (sm - 1)) 171) sv ai tx (if sm = 0 then 0 else sm - 1) ln (if sm = 0 then 1 else 0) hh)) (va_A (wM y a f sv ai tx sm ln th hh) sz)) 0 0 (va_A (wM y a f sv ai tx sm ln th hh) sz) := by
  refine z_headW (cc := cX5_undo) (maxL := 2) (ret := (some .int)) [(0, .ref (a 0))] rfl (Nat.le_of_ble_eq_true rfl) (by decide +kernel) rfl ?_
  intro pp ee ss mm below meth cd mx mb mr mml mo mts mlk hK hname hsz hA
  generalize ([.ref (a 0)] : List Value).toArray = args at mts ⊢
  obtain ⟨wst, hw0⟩ : ∃ wst, wst = wM y a f sv ai tx sm ln th hh := ⟨_, rfl⟩
  have hA : ∀ q, ss.heap.size ≤ q → va_A wst sz q := by rw [hw0]; exact hA
  obtain ⟨Q, hQ⟩ : ∃ Q, Q = MQ below (va_Qi (fun (r : Int32) (_ : Unit) => r = iZ (if sm = 0 then 0 else sm - 1)) (zB D vwCl (zT y) wst sz (fun _ : Unit => wM y a (if sm = 0 then f else cpO f sv (171 * (sm - 1)) 171) sv ai tx (if sm = 0 then 0 else sm - 1) ln (if sm = 0 then 1 else 0) hh)) (va_A wst sz)) args ss 0 0 (va_A wst sz) := ⟨_, rfl⟩
  have hstart : Gz pp l ee ({ frames := 1, cells := 0, slots := 0, locals := 21 } : Room) ss mm args below meth cd 2 0 0 Q (Zw D vwCl (va_A wst sz) ss (wM y a f sv ai tx sm ln th hh)) 0 [(0, .ref (a 0))] [] := by
    refine z_aload_n mx mb dX5_undo_0 rfl 0 rfl ?_
    refine z_get (C := RX5) (T := TX5) (N := 8) mx mb mts (in_X5_undo_X5) mo hK zgw 0 wM_0 rfl 3 (by decide) (mts _ (List.mem_of_getElem? (i := 1) rfl)) (fun _ h9 => h9) rfl dX5_undo_1 ?_
    refine z_if_ne (tgt := 13) mx mb (by omega) dX5_undo_4 (by decide) (fun c4 => ?_) (fun c4 => ?_)
    · skip
      refine z_aload_n mx mb dX5_undo_13 rfl 0 rfl ?_
      refine z_dup mx mb dX5_undo_14 rfl ?_
      refine z_get (C := RX5) (T := TX5) (N := 8) mx mb mts (in_X5_undo_X5) mo hK zgw 0 wM_0 rfl 3 (by decide) (mts _ (List.mem_of_getElem? (i := 1) rfl)) (fun _ h9 => h9) rfl dX5_undo_15 ?_
      refine z_iconst mx mb dX5_undo_18 ?_
      refine z_isub mx mb dX5_undo_19 ?_
      refine z_put (ty := .int) (C := RX5) (T := TX5) (N := 8) mx mb mts (in_X5_undo_X5) tyX5_ok nmX5 mo hK 0 wM_0 rfl 3 (by decide) (mts _ (List.mem_of_getElem? (i := 1) rfl)) (fun _ h9 => h9) rfl (by decide +kernel) rfl rfl (Nat.le_of_ble_eq_true rfl) dX5_undo_20 (wM y a f sv ai tx (sm - 1) ln th hh) rfl ?_
      refine z_iconst mx mb dX5_undo_23 ?_
      refine z_istore_n mx mb dX5_undo_24 rfl (by decide) [(1, .int (iZ 0)), (0, .ref (a 0))] rfl ?_
      have lp25 : ∀ (nn : Nat) (i : Nat) (x1 : Int) (g : Int → Int), 171 - i < nn → ((i : Int) ≤ 171) → (x1 = (i : Int)) → (g = cpO f sv (171 * (sm - 1)) i) → Gz pp l ee ({ frames := 1, cells := 0, slots := 0, locals := 21 } : Room) ss mm args below meth cd 2 0 0 Q (Zw D vwCl (va_A wst sz) ss (wM y a g sv ai tx (sm - 1) ln th hh)) 25 [(0, .ref (a 0)), (1, .int (iZ x1))] [] := by
        intro nn
        induction nn with
        | zero => exact fun i x1 g hm => absurd hm (Nat.not_lt_zero _)
        | succ nn ih =>
          intro i x1 g hm hi e1 eg
          refine z_iload_n mx mb dX5_undo_25 rfl 1 rfl ?_
          refine z_sipush mx mb dX5_undo_26 (by decide +kernel) ?_
          refine z_icmp_ge (tgt := 59) mx mb (by omega) (by omega) dX5_undo_29 (by decide) (fun c29 => ?_) (fun c29 => ?_)
          · skip
            have hi5 : i = 171 := by omega
            refine z_aload_n mx mb dX5_undo_59 rfl 0 rfl ?_
            refine z_aload_n mx mb dX5_undo_60 rfl 0 rfl ?_
            refine z_get (C := RX5) (T := TX5) (N := 8) mx mb mts (in_X5_undo_X5) mo hK zgw 0 wM_0 rfl 3 (by decide) (mts _ (List.mem_of_getElem? (i := 1) rfl)) (fun _ h9 => h9) rfl dX5_undo_61 ?_
            refine z_callI0 (As := [.int (iZ (sm - 1))]) (rest := []) ⟨mx, mb, mml, mo, mts⟩ hK hA (fun sz => c_X5_tells l D sz y a g sv ai tx (sm - 1) ln th hh (sm - 1) ) (cwV 1 mts gX5_undo_X5_tells rfl rfl rfl (by decide +kernel) ⟨Nat.le_of_ble_eq_true rfl, Nat.le_of_ble_eq_true rfl⟩) 0 wM_0 rfl rfl rfl rfl (Nat.le_of_ble_eq_true rfl) ⟨Nat.zero_le _, Nat.zero_le _⟩ dX5_undo_64 (fun r64 u64 hu64 => ?_)
            subst hu64
            show Gz pp l ee ({ frames := 1, cells := 0, slots := 0, locals := 21 } : Room) ss mm args below meth cd 2 0 0 Q (Zw D vwCl (va_A wst sz) ss (wM y a g sv ai tx (sm - 1) ln 0 hh)) 67 [(0, .ref (a 0)), (1, .int (iZ x1))] [.int (iZ (sm - 1))]
            rw [hQ]
            exact z_retI mx mb mr mlk hK () (by rw [if_neg c4]) (by simp only [if_neg c4]; rw [eg, hi5]) dX5_undo_67
          · skip
            refine z_aload_n mx mb dX5_undo_32 rfl 0 rfl ?_
            refine z_get (C := RX5) (T := TX5) (N := 8) mx mb mts (in_X5_undo_X5) mo hK zgw 0 wM_0 rfl 0 (by decide) (mts _ (List.mem_of_getElem? (i := 2) rfl)) (fun _ h9 => h9) rfl dX5_undo_33 ?_
            refine z_iload_n mx mb dX5_undo_36 rfl 1 rfl ?_
            refine z_aload_n mx mb dX5_undo_37 rfl 0 rfl ?_
            refine z_get (C := RX5) (T := TX5) (N := 8) mx mb mts (in_X5_undo_X5) mo hK zgw 0 wM_0 rfl 1 (by decide) (mts _ (List.mem_of_getElem? (i := 3) rfl)) (fun _ h9 => h9) rfl dX5_undo_38 ?_
            refine z_sipush mx mb dX5_undo_41 (by decide +kernel) ?_
            refine z_aload_n mx mb dX5_undo_44 rfl 0 rfl ?_
            refine z_get (C := RX5) (T := TX5) (N := 8) mx mb mts (in_X5_undo_X5) mo hK zgw 0 wM_0 rfl 3 (by decide) (mts _ (List.mem_of_getElem? (i := 1) rfl)) (fun _ h9 => h9) rfl dX5_undo_45 ?_
            refine z_imul mx mb dX5_undo_48 ?_
            refine z_iload_n mx mb dX5_undo_49 rfl 1 rfl ?_
            refine z_iadd mx mb dX5_undo_50 ?_
            refine z_iald mx mb hK zgw 2 0 wM_2 rfl (by decide) (by omega) dX5_undo_51 ?_
            refine z_iast mx mb hK 1 0 wM_1 rfl (by decide) (by omega) dX5_undo_52 (wM y a (zu g x1 (sv ((171 * (sm - 1)) + x1))) sv ai tx (sm - 1) ln th hh) wM_s1 ?_
            refine z_iinc mx mb dX5_undo_53 1 rfl (by decide) [(1, .int (iZ (x1 + 1))), (0, .ref (a 0))] rfl ?_
            refine z_goto (tgt := 25) mx mb dX5_undo_56 (by decide) ?_
            refine z_lv [1, 0] rfl ?_
            exact ih (i + 1) _ _ (by omega) (by omega) (by omega) (by rw [cpO, ← eg, e1])
      refine z_lv [1, 0] rfl ?_
      exact lp25 _ 0 0 f (Nat.lt_succ_self _) (by omega) (by rfl) (by rfl)
    · skip
      refine z_aload_n mx mb dX5_undo_7 rfl 0 rfl ?_
      refine z_iconst mx mb dX5_undo_8 ?_
      refine z_callI0 (As := [.int (iZ 1)]) (rest := []) ⟨mx, mb, mml, mo, mts⟩ hK hA (fun sz => c_X5_fails l D sz y a f sv ai tx sm ln th hh 1 ) (cwV 1 mts gX5_undo_X5_fails rfl rfl rfl (by decide +kernel) ⟨Nat.le_of_ble_eq_true rfl, Nat.le_of_ble_eq_true rfl⟩) 0 wM_0 rfl rfl rfl rfl (Nat.le_of_ble_eq_true rfl) ⟨Nat.zero_le _, Nat.zero_le _⟩ dX5_undo_9 (fun r9 u9 hu9 => ?_)
      subst hu9
      show Gz pp l ee ({ frames := 1, cells := 0, slots := 0, locals := 21 } : Room) ss mm args below meth cd 2 0 0 Q (Zw D vwCl (va_A wst sz) ss (wM y a f sv ai tx sm ln 1 hh)) 12 [(0, .ref (a 0))] [.int (iZ 0)]
      rw [hQ]
      exact z_retI mx mb mr mlk hK () (by rw [if_pos c4]) (by simp only [if_pos c4]; rw [c4]) dX5_undo_12
  subst hQ
  subst hw0
  exact hstart

set_option maxRecDepth 100000 in
set_option maxHeartbeats 4000000 in
theorem c_X5_train (l : Launch) (D : va_G) (sz : Nat) (y : Nat → ClassId) (a : Nat → Nat) (f sv ai tx : Int → Int) (sm ln th hh : Int) (t w : Int) (ht : -2147483648 ≤ t ∧ t ≤ 2147483647) (hw : -2147483648 ≤ w ∧ w ≤ 2147483647) (hI : Inv 100000 f) : Met l yX5_train wsX5_train ({ frames := 3, cells := 0, slots := 0, locals := 66 } : Room) (zPw D vwCl (zT y) (wM y a f sv ai tx sm ln th hh) sz [.ref (a 0), .int (iZ t), .int (iZ w)]) (va_Qi (fun (r : Int32) (_ : Unit) => r = iZ (if thIn t (f 2 - 1) w 9 = 0 then trainOf f t w else 0)) (zB D vwCl (zT y) (wM y a f sv ai tx sm ln th hh) sz (fun _ : Unit => wM y a f sv ai tx sm ln (thIn t (f 2 - 1) w 9) hh)) (va_A (wM y a f sv ai tx sm ln th hh) sz)) 0 0 (va_A (wM y a f sv ai tx sm ln th hh) sz) := by
  refine z_headW (cc := cX5_train) (maxL := 3) (ret := (some .int)) [(0, .ref (a 0)), (1, .int (iZ t)), (2, .int (iZ w))] rfl (Nat.le_of_ble_eq_true rfl) (by decide +kernel) rfl ?_
  intro pp ee ss mm below meth cd mx mb mr mml mo mts mlk hK hname hsz hA
  generalize ([.ref (a 0), .int (iZ t), .int (iZ w)] : List Value).toArray = args at mts ⊢
  obtain ⟨wst, hw0⟩ : ∃ wst, wst = wM y a f sv ai tx sm ln th hh := ⟨_, rfl⟩
  have hA : ∀ q, ss.heap.size ≤ q → va_A wst sz q := by rw [hw0]; exact hA
  obtain ⟨Q, hQ⟩ : ∃ Q, Q = MQ below (va_Qi (fun (r : Int32) (_ : Unit) => r = iZ (if thIn t (f 2 - 1) w 9 = 0 then trainOf f t w else 0)) (zB D vwCl (zT y) wst sz (fun _ : Unit => wM y a f sv ai tx sm ln (thIn t (f 2 - 1) w 9) hh)) (va_A wst sz)) args ss 0 0 (va_A wst sz) := ⟨_, rfl⟩
  have hstart : Gz pp l ee ({ frames := 3, cells := 0, slots := 0, locals := 66 } : Room) ss mm args below meth cd 3 0 0 Q (Zw D vwCl (va_A wst sz) ss (wM y a f sv ai tx sm ln th hh)) 0 [(0, .ref (a 0)), (1, .int (iZ t)), (2, .int (iZ w))] [] := by
    have hX : InvX f := ⟨_, hI, by omega⟩
    have hJ := hX.J
    obtain ⟨hW, hN, hT⟩ := hJ.f
    obtain ⟨w0, w1, w2, w3, w4, w5, w6⟩ := id hW
    obtain ⟨n3, n4, n5, n6, n7, n8, n9, n10⟩ := id hN
    refine z_aload_n mx mb dX5_train_0 rfl 0 rfl ?_
    refine z_iload_n mx mb dX5_train_1 rfl 1 rfl ?_
    refine z_callP (As := [.int (iZ t)]) (rest := []) ⟨mx, mb, mml, mo, mts⟩ hK zgw (c_X5_isTrain l D y a f sv ai tx sm ln th hh t (by omega) (by omega)) (cwV 1 mts gX5_train_X5_isTrain rfl rfl rfl (by decide +kernel) ⟨Nat.le_of_ble_eq_true rfl, Nat.le_of_ble_eq_true rfl⟩) (fun _ h => h) 0 wM_0 rfl rfl rfl rfl (Nat.le_of_ble_eq_true rfl) ⟨Nat.zero_le _, Nat.zero_le _⟩ dX5_train_2 ?_
    refine z_if_ne (tgt := 14) mx mb (b2z_rng _) dX5_train_5 (by decide) (fun c5 => ?_) (fun c5 => ?_)
    · skip
      have hb := b2z_ne c5
      have k0 := w6 t (by omega) (by omega)
      obtain ⟨q1, q2, q3, q5, q7⟩ := hT t (by omega) (by omega)
      refine z_iload_n mx mb dX5_train_14 rfl 2 rfl ?_
      refine z_iconst mx mb dX5_train_15 ?_
      refine z_bipush mx mb dX5_train_16 (by decide +kernel) ?_
      refine z_callPS (As := [.int (iZ w), .int (iZ 0), .int (iZ 9)]) (rest := []) ⟨mx, mb, mml, mo, mts⟩ hK zgw (c_X5_in l D y w 0 9 (by omega) (by omega) (by omega)) (cwS 3 mts gX5_train_X5_in rfl rfl rfl (by decide +kernel) ⟨Nat.le_of_ble_eq_true rfl, Nat.le_of_ble_eq_true rfl⟩) (fun _ h => nomatch h) rfl rfl (Nat.le_of_ble_eq_true rfl) ⟨Nat.zero_le _, Nat.zero_le _⟩ dX5_train_18 ?_
      refine z_if_eq (tgt := 37) mx mb (b2z_rng _) dX5_train_21 (by decide) (fun c21 => ?_) (fun c21 => ?_)
      · skip
        refine z_aload_n mx mb dX5_train_37 rfl 0 rfl ?_
        refine z_iconst mx mb dX5_train_38 ?_
        refine z_callI0 (As := [.int (iZ 2)]) (rest := []) ⟨mx, mb, mml, mo, mts⟩ hK hA (fun sz => c_X5_fails l D sz y a f sv ai tx sm ln th hh 2 ) (cwV 1 mts gX5_train_X5_fails rfl rfl rfl (by decide +kernel) ⟨Nat.le_of_ble_eq_true rfl, Nat.le_of_ble_eq_true rfl⟩) 0 wM_0 rfl rfl rfl rfl (Nat.le_of_ble_eq_true rfl) ⟨Nat.zero_le _, Nat.zero_le _⟩ dX5_train_39 (fun r39 u39 hu39 => ?_)
        subst hu39
        show Gz pp l ee ({ frames := 3, cells := 0, slots := 0, locals := 66 } : Room) ss mm args below meth cd 3 0 0 Q (Zw D vwCl (va_A wst sz) ss (wM y a f sv ai tx sm ln 2 hh)) 42 [(0, .ref (a 0)), (1, .int (iZ t)), (2, .int (iZ w))] [.int (iZ 0)]
        have hth : thIn t (f 2 - 1) w 9 = 2 := by unfold thIn; rw [if_pos hb, if_neg (b2z_e c21)]
        rw [hQ]
        exact z_retI mx mb mr mlk hK () (by rw [hth]; rfl) (by rw [hth]) dX5_train_42
      · skip
        have hb2 := b2z_ne c21
        refine z_aload_n mx mb dX5_train_24 rfl 0 rfl ?_
        refine z_aload_n mx mb dX5_train_25 rfl 0 rfl ?_
        refine z_iload_n mx mb dX5_train_26 rfl 1 rfl ?_
        refine z_iload_n mx mb dX5_train_27 rfl 2 rfl ?_
        refine z_callP (As := [.int (iZ t), .int (iZ w)]) (rest := [.ref (a 0)]) ⟨mx, mb, mml, mo, mts⟩ hK zgw (c_X5_trainOf l D y a f sv ai tx sm ln th hh t w (by omega) (by omega) (by omega) (by assumption)) (cwV 2 mts gX5_train_X5_trainOf rfl rfl rfl (by decide +kernel) ⟨Nat.le_of_ble_eq_true rfl, Nat.le_of_ble_eq_true rfl⟩) (fun _ h => h) 0 wM_0 rfl rfl rfl rfl (Nat.le_of_ble_eq_true rfl) ⟨Nat.zero_le _, Nat.zero_le _⟩ dX5_train_28 ?_
        refine z_callI0 (As := [.int (iZ (trainOf f t w))]) (rest := []) ⟨mx, mb, mml, mo, mts⟩ hK hA (fun sz => c_X5_tells l D sz y a f sv ai tx sm ln th hh (trainOf f t w) ) (cwV 1 mts gX5_train_X5_tells rfl rfl rfl (by decide +kernel) ⟨Nat.le_of_ble_eq_true rfl, Nat.le_of_ble_eq_true rfl⟩) 0 wM_0 rfl rfl rfl rfl (Nat.le_of_ble_eq_true rfl) ⟨Nat.zero_le _, Nat.zero_le _⟩ dX5_train_31 (fun r31 u31 hu31 => ?_)
        subst hu31
        show Gz pp l ee ({ frames := 3, cells := 0, slots := 0, locals := 66 } : Room) ss mm args below meth cd 3 0 0 Q (Zw D vwCl (va_A wst sz) ss (wM y a f sv ai tx sm ln 0 hh)) 34 [(0, .ref (a 0)), (1, .int (iZ t)), (2, .int (iZ w))] [.int (iZ (trainOf f t w))]
        refine z_goto (tgt := 42) mx mb dX5_train_34 (by decide) ?_
        have hth : thIn t (f 2 - 1) w 9 = 0 := by unfold thIn; rw [if_pos hb, if_pos hb2]
        rw [hQ]
        exact z_retI mx mb mr mlk hK () (by rw [hth]; rfl) (by rw [hth]) dX5_train_42
    · skip
      refine z_aload_n mx mb dX5_train_8 rfl 0 rfl ?_
      refine z_iconst mx mb dX5_train_9 ?_
      refine z_callI0 (As := [.int (iZ 1)]) (rest := []) ⟨mx, mb, mml, mo, mts⟩ hK hA (fun sz => c_X5_fails l D sz y a f sv ai tx sm ln th hh 1 ) (cwV 1 mts gX5_train_X5_fails rfl rfl rfl (by decide +kernel) ⟨Nat.le_of_ble_eq_true rfl, Nat.le_of_ble_eq_true rfl⟩) 0 wM_0 rfl rfl rfl rfl (Nat.le_of_ble_eq_true rfl) ⟨Nat.zero_le _, Nat.zero_le _⟩ dX5_train_10 (fun r10 u10 hu10 => ?_)
      subst hu10
      show Gz pp l ee ({ frames := 3, cells := 0, slots := 0, locals := 66 } : Room) ss mm args below meth cd 3 0 0 Q (Zw D vwCl (va_A wst sz) ss (wM y a f sv ai tx sm ln 1 hh)) 13 [(0, .ref (a 0)), (1, .int (iZ t)), (2, .int (iZ w))] [.int (iZ 0)]
      have hth : thIn t (f 2 - 1) w 9 = 1 := by unfold thIn; rw [if_neg (b2z_e c5)]
      rw [hQ]
      exact z_retI mx mb mr mlk hK () (by rw [hth]; rfl) (by rw [hth]) dX5_train_13
  subst hQ
  subst hw0
  exact hstart

set_option maxRecDepth 100000 in
set_option maxHeartbeats 4000000 in
theorem c_X5_cell (l : Launch) (D : va_G) (sz : Nat) (y : Nat → ClassId) (a : Nat → Nat) (f sv ai tx : Int → Int) (sm ln th hh : Int) (c w : Int) (hc : -2147483648 ≤ c ∧ c ≤ 2147483647) (hw : -2147483648 ≤ w ∧ w ≤ 2147483647) (hI : Inv 100000 f) : Met l yX5_cell wsX5_cell ({ frames := 3, cells := 0, slots := 0, locals := 67 } : Room) (zPw D vwCl (zT y) (wM y a f sv ai tx sm ln th hh) sz [.ref (a 0), .int (iZ c), .int (iZ w)]) (va_Qi (fun (r : Int32) (_ : Unit) => r = iZ (if thIn c (f 0 - 1) w 3 = 0 then cellOf f c w else 0)) (zB D vwCl (zT y) (wM y a f sv ai tx sm ln th hh) sz (fun _ : Unit => wM y a f sv ai tx sm ln (thIn c (f 0 - 1) w 3) hh)) (va_A (wM y a f sv ai tx sm ln th hh) sz)) 0 0 (va_A (wM y a f sv ai tx sm ln th hh) sz) := by
  refine z_headW (cc := cX5_cell) (maxL := 3) (ret := (some .int)) [(0, .ref (a 0)), (1, .int (iZ c)), (2, .int (iZ w))] rfl (Nat.le_of_ble_eq_true rfl) (by decide +kernel) rfl ?_
  intro pp ee ss mm below meth cd mx mb mr mml mo mts mlk hK hname hsz hA
  generalize ([.ref (a 0), .int (iZ c), .int (iZ w)] : List Value).toArray = args at mts ⊢
  obtain ⟨wst, hw0⟩ : ∃ wst, wst = wM y a f sv ai tx sm ln th hh := ⟨_, rfl⟩
  have hA : ∀ q, ss.heap.size ≤ q → va_A wst sz q := by rw [hw0]; exact hA
  obtain ⟨Q, hQ⟩ : ∃ Q, Q = MQ below (va_Qi (fun (r : Int32) (_ : Unit) => r = iZ (if thIn c (f 0 - 1) w 3 = 0 then cellOf f c w else 0)) (zB D vwCl (zT y) wst sz (fun _ : Unit => wM y a f sv ai tx sm ln (thIn c (f 0 - 1) w 3) hh)) (va_A wst sz)) args ss 0 0 (va_A wst sz) := ⟨_, rfl⟩
  have hstart : Gz pp l ee ({ frames := 3, cells := 0, slots := 0, locals := 67 } : Room) ss mm args below meth cd 3 0 0 Q (Zw D vwCl (va_A wst sz) ss (wM y a f sv ai tx sm ln th hh)) 0 [(0, .ref (a 0)), (1, .int (iZ c)), (2, .int (iZ w))] [] := by
    have hX : InvX f := ⟨_, hI, by omega⟩
    have hJ := hX.J
    obtain ⟨hW, hN, hT⟩ := hJ.f
    obtain ⟨w0, w1, w2, w3, w4, w5, w6⟩ := id hW
    obtain ⟨n3, n4, n5, n6, n7, n8, n9, n10⟩ := id hN
    refine z_aload_n mx mb dX5_cell_0 rfl 0 rfl ?_
    refine z_iload_n mx mb dX5_cell_1 rfl 1 rfl ?_
    refine z_callP (As := [.int (iZ c)]) (rest := []) ⟨mx, mb, mml, mo, mts⟩ hK zgw (c_X5_isCell l D y a f sv ai tx sm ln th hh c (by omega) (by omega)) (cwV 1 mts gX5_cell_X5_isCell rfl rfl rfl (by decide +kernel) ⟨Nat.le_of_ble_eq_true rfl, Nat.le_of_ble_eq_true rfl⟩) (fun _ h => h) 0 wM_0 rfl rfl rfl rfl (Nat.le_of_ble_eq_true rfl) ⟨Nat.zero_le _, Nat.zero_le _⟩ dX5_cell_2 ?_
    refine z_if_ne (tgt := 14) mx mb (b2z_rng _) dX5_cell_5 (by decide) (fun c5 => ?_) (fun c5 => ?_)
    · skip
      have hb := b2z_ne c5
      refine z_iload_n mx mb dX5_cell_14 rfl 2 rfl ?_
      refine z_iconst mx mb dX5_cell_15 ?_
      refine z_iconst mx mb dX5_cell_16 ?_
      refine z_callPS (As := [.int (iZ w), .int (iZ 0), .int (iZ 3)]) (rest := []) ⟨mx, mb, mml, mo, mts⟩ hK zgw (c_X5_in l D y w 0 3 (by omega) (by omega) (by omega)) (cwS 3 mts gX5_cell_X5_in rfl rfl rfl (by decide +kernel) ⟨Nat.le_of_ble_eq_true rfl, Nat.le_of_ble_eq_true rfl⟩) (fun _ h => nomatch h) rfl rfl (Nat.le_of_ble_eq_true rfl) ⟨Nat.zero_le _, Nat.zero_le _⟩ dX5_cell_17 ?_
      refine z_if_eq (tgt := 36) mx mb (b2z_rng _) dX5_cell_20 (by decide) (fun c20 => ?_) (fun c20 => ?_)
      · skip
        refine z_aload_n mx mb dX5_cell_36 rfl 0 rfl ?_
        refine z_iconst mx mb dX5_cell_37 ?_
        refine z_callI0 (As := [.int (iZ 2)]) (rest := []) ⟨mx, mb, mml, mo, mts⟩ hK hA (fun sz => c_X5_fails l D sz y a f sv ai tx sm ln th hh 2 ) (cwV 1 mts gX5_cell_X5_fails rfl rfl rfl (by decide +kernel) ⟨Nat.le_of_ble_eq_true rfl, Nat.le_of_ble_eq_true rfl⟩) 0 wM_0 rfl rfl rfl rfl (Nat.le_of_ble_eq_true rfl) ⟨Nat.zero_le _, Nat.zero_le _⟩ dX5_cell_38 (fun r38 u38 hu38 => ?_)
        subst hu38
        show Gz pp l ee ({ frames := 3, cells := 0, slots := 0, locals := 67 } : Room) ss mm args below meth cd 3 0 0 Q (Zw D vwCl (va_A wst sz) ss (wM y a f sv ai tx sm ln 2 hh)) 41 [(0, .ref (a 0)), (1, .int (iZ c)), (2, .int (iZ w))] [.int (iZ 0)]
        have hth : thIn c (f 0 - 1) w 3 = 2 := by unfold thIn; rw [if_pos hb, if_neg (b2z_e c20)]
        rw [hQ]
        exact z_retI mx mb mr mlk hK () (by rw [hth]; rfl) (by rw [hth]) dX5_cell_41
      · skip
        have hb2 := b2z_ne c20
        refine z_aload_n mx mb dX5_cell_23 rfl 0 rfl ?_
        refine z_aload_n mx mb dX5_cell_24 rfl 0 rfl ?_
        refine z_iload_n mx mb dX5_cell_25 rfl 1 rfl ?_
        refine z_iload_n mx mb dX5_cell_26 rfl 2 rfl ?_
        refine z_callP (As := [.int (iZ c), .int (iZ w)]) (rest := [.ref (a 0)]) ⟨mx, mb, mml, mo, mts⟩ hK zgw (c_X5_cellOf l D y a f sv ai tx sm ln th hh c w (by omega) (by omega) (by assumption)) (cwV 2 mts gX5_cell_X5_cellOf rfl rfl rfl (by decide +kernel) ⟨Nat.le_of_ble_eq_true rfl, Nat.le_of_ble_eq_true rfl⟩) (fun _ h => h) 0 wM_0 rfl rfl rfl rfl (Nat.le_of_ble_eq_true rfl) ⟨Nat.zero_le _, Nat.zero_le _⟩ dX5_cell_27 ?_
        refine z_callI0 (As := [.int (iZ (cellOf f c w))]) (rest := []) ⟨mx, mb, mml, mo, mts⟩ hK hA (fun sz => c_X5_tells l D sz y a f sv ai tx sm ln th hh (cellOf f c w) ) (cwV 1 mts gX5_cell_X5_tells rfl rfl rfl (by decide +kernel) ⟨Nat.le_of_ble_eq_true rfl, Nat.le_of_ble_eq_true rfl⟩) 0 wM_0 rfl rfl rfl rfl (Nat.le_of_ble_eq_true rfl) ⟨Nat.zero_le _, Nat.zero_le _⟩ dX5_cell_30 (fun r30 u30 hu30 => ?_)
        subst hu30
        show Gz pp l ee ({ frames := 3, cells := 0, slots := 0, locals := 67 } : Room) ss mm args below meth cd 3 0 0 Q (Zw D vwCl (va_A wst sz) ss (wM y a f sv ai tx sm ln 0 hh)) 33 [(0, .ref (a 0)), (1, .int (iZ c)), (2, .int (iZ w))] [.int (iZ (cellOf f c w))]
        refine z_goto (tgt := 41) mx mb dX5_cell_33 (by decide) ?_
        have hth : thIn c (f 0 - 1) w 3 = 0 := by unfold thIn; rw [if_pos hb, if_pos hb2]
        rw [hQ]
        exact z_retI mx mb mr mlk hK () (by rw [hth]; rfl) (by rw [hth]) dX5_cell_41
    · skip
      refine z_aload_n mx mb dX5_cell_8 rfl 0 rfl ?_
      refine z_iconst mx mb dX5_cell_9 ?_
      refine z_callI0 (As := [.int (iZ 1)]) (rest := []) ⟨mx, mb, mml, mo, mts⟩ hK hA (fun sz => c_X5_fails l D sz y a f sv ai tx sm ln th hh 1 ) (cwV 1 mts gX5_cell_X5_fails rfl rfl rfl (by decide +kernel) ⟨Nat.le_of_ble_eq_true rfl, Nat.le_of_ble_eq_true rfl⟩) 0 wM_0 rfl rfl rfl rfl (Nat.le_of_ble_eq_true rfl) ⟨Nat.zero_le _, Nat.zero_le _⟩ dX5_cell_10 (fun r10 u10 hu10 => ?_)
      subst hu10
      show Gz pp l ee ({ frames := 3, cells := 0, slots := 0, locals := 67 } : Room) ss mm args below meth cd 3 0 0 Q (Zw D vwCl (va_A wst sz) ss (wM y a f sv ai tx sm ln 1 hh)) 13 [(0, .ref (a 0)), (1, .int (iZ c)), (2, .int (iZ w))] [.int (iZ 0)]
      have hth : thIn c (f 0 - 1) w 3 = 1 := by unfold thIn; rw [if_neg (b2z_e c5)]
      rw [hQ]
      exact z_retI mx mb mr mlk hK () (by rw [hth]; rfl) (by rw [hth]) dX5_cell_13
  subst hQ
  subst hw0
  exact hstart

set_option maxRecDepth 100000 in
set_option maxHeartbeats 4000000 in
theorem c_X5_block (l : Launch) (D : va_G) (sz : Nat) (y : Nat → ClassId) (a : Nat → Nat) (f sv ai tx : Int → Int) (sm ln th hh : Int) (b w : Int) (hb : -2147483648 ≤ b ∧ b ≤ 2147483647) (hw : -2147483648 ≤ w ∧ w ≤ 2147483647) (hI : Inv 100000 f) : Met l yX5_block wsX5_block ({ frames := 3, cells := 0, slots := 0, locals := 68 } : Room) (zPw D vwCl (zT y) (wM y a f sv ai tx sm ln th hh) sz [.ref (a 0), .int (iZ b), .int (iZ w)]) (va_Qi (fun (r : Int32) (_ : Unit) => r = iZ (if thIn b (f 1 - 1) w 4 = 0 then blockOf f b w else 0)) (zB D vwCl (zT y) (wM y a f sv ai tx sm ln th hh) sz (fun _ : Unit => wM y a f sv ai tx sm ln (thIn b (f 1 - 1) w 4) hh)) (va_A (wM y a f sv ai tx sm ln th hh) sz)) 0 0 (va_A (wM y a f sv ai tx sm ln th hh) sz) := by
  refine z_headW (cc := cX5_block) (maxL := 3) (ret := (some .int)) [(0, .ref (a 0)), (1, .int (iZ b)), (2, .int (iZ w))] rfl (Nat.le_of_ble_eq_true rfl) (by decide +kernel) rfl ?_
  intro pp ee ss mm below meth cd mx mb mr mml mo mts mlk hK hname hsz hA
  generalize ([.ref (a 0), .int (iZ b), .int (iZ w)] : List Value).toArray = args at mts ⊢
  obtain ⟨wst, hw0⟩ : ∃ wst, wst = wM y a f sv ai tx sm ln th hh := ⟨_, rfl⟩
  have hA : ∀ q, ss.heap.size ≤ q → va_A wst sz q := by rw [hw0]; exact hA
  obtain ⟨Q, hQ⟩ : ∃ Q, Q = MQ below (va_Qi (fun (r : Int32) (_ : Unit) => r = iZ (if thIn b (f 1 - 1) w 4 = 0 then blockOf f b w else 0)) (zB D vwCl (zT y) wst sz (fun _ : Unit => wM y a f sv ai tx sm ln (thIn b (f 1 - 1) w 4) hh)) (va_A wst sz)) args ss 0 0 (va_A wst sz) := ⟨_, rfl⟩
  have hstart : Gz pp l ee ({ frames := 3, cells := 0, slots := 0, locals := 68 } : Room) ss mm args below meth cd 3 0 0 Q (Zw D vwCl (va_A wst sz) ss (wM y a f sv ai tx sm ln th hh)) 0 [(0, .ref (a 0)), (1, .int (iZ b)), (2, .int (iZ w))] [] := by
    have hX : InvX f := ⟨_, hI, by omega⟩
    have hJ := hX.J
    obtain ⟨hW, hN, hT⟩ := hJ.f
    obtain ⟨w0, w1, w2, w3, w4, w5, w6⟩ := id hW
    obtain ⟨n3, n4, n5, n6, n7, n8, n9, n10⟩ := id hN
    refine z_aload_n mx mb dX5_block_0 rfl 0 rfl ?_
    refine z_iload_n mx mb dX5_block_1 rfl 1 rfl ?_
    refine z_callP (As := [.int (iZ b)]) (rest := []) ⟨mx, mb, mml, mo, mts⟩ hK zgw (c_X5_isBlock l D y a f sv ai tx sm ln th hh b (by omega) (by omega)) (cwV 1 mts gX5_block_X5_isBlock rfl rfl rfl (by decide +kernel) ⟨Nat.le_of_ble_eq_true rfl, Nat.le_of_ble_eq_true rfl⟩) (fun _ h => h) 0 wM_0 rfl rfl rfl rfl (Nat.le_of_ble_eq_true rfl) ⟨Nat.zero_le _, Nat.zero_le _⟩ dX5_block_2 ?_
    refine z_if_ne (tgt := 14) mx mb (b2z_rng _) dX5_block_5 (by decide) (fun c5 => ?_) (fun c5 => ?_)
    · skip
      have hb := b2z_ne c5
      refine z_iload_n mx mb dX5_block_14 rfl 2 rfl ?_
      refine z_iconst mx mb dX5_block_15 ?_
      refine z_iconst mx mb dX5_block_16 ?_
      refine z_callPS (As := [.int (iZ w), .int (iZ 0), .int (iZ 4)]) (rest := []) ⟨mx, mb, mml, mo, mts⟩ hK zgw (c_X5_in l D y w 0 4 (by omega) (by omega) (by omega)) (cwS 3 mts gX5_block_X5_in rfl rfl rfl (by decide +kernel) ⟨Nat.le_of_ble_eq_true rfl, Nat.le_of_ble_eq_true rfl⟩) (fun _ h => nomatch h) rfl rfl (Nat.le_of_ble_eq_true rfl) ⟨Nat.zero_le _, Nat.zero_le _⟩ dX5_block_17 ?_
      refine z_if_eq (tgt := 36) mx mb (b2z_rng _) dX5_block_20 (by decide) (fun c20 => ?_) (fun c20 => ?_)
      · skip
        refine z_aload_n mx mb dX5_block_36 rfl 0 rfl ?_
        refine z_iconst mx mb dX5_block_37 ?_
        refine z_callI0 (As := [.int (iZ 2)]) (rest := []) ⟨mx, mb, mml, mo, mts⟩ hK hA (fun sz => c_X5_fails l D sz y a f sv ai tx sm ln th hh 2 ) (cwV 1 mts gX5_block_X5_fails rfl rfl rfl (by decide +kernel) ⟨Nat.le_of_ble_eq_true rfl, Nat.le_of_ble_eq_true rfl⟩) 0 wM_0 rfl rfl rfl rfl (Nat.le_of_ble_eq_true rfl) ⟨Nat.zero_le _, Nat.zero_le _⟩ dX5_block_38 (fun r38 u38 hu38 => ?_)
        subst hu38
        show Gz pp l ee ({ frames := 3, cells := 0, slots := 0, locals := 68 } : Room) ss mm args below meth cd 3 0 0 Q (Zw D vwCl (va_A wst sz) ss (wM y a f sv ai tx sm ln 2 hh)) 41 [(0, .ref (a 0)), (1, .int (iZ b)), (2, .int (iZ w))] [.int (iZ 0)]
        have hth : thIn b (f 1 - 1) w 4 = 2 := by unfold thIn; rw [if_pos hb, if_neg (b2z_e c20)]
        rw [hQ]
        exact z_retI mx mb mr mlk hK () (by rw [hth]; rfl) (by rw [hth]) dX5_block_41
      · skip
        have hb2 := b2z_ne c20
        refine z_aload_n mx mb dX5_block_23 rfl 0 rfl ?_
        refine z_aload_n mx mb dX5_block_24 rfl 0 rfl ?_
        refine z_iload_n mx mb dX5_block_25 rfl 1 rfl ?_
        refine z_iload_n mx mb dX5_block_26 rfl 2 rfl ?_
        refine z_callP (As := [.int (iZ b), .int (iZ w)]) (rest := [.ref (a 0)]) ⟨mx, mb, mml, mo, mts⟩ hK zgw (c_X5_blockOf l D y a f sv ai tx sm ln th hh b w (by omega) (by omega) (by assumption)) (cwV 2 mts gX5_block_X5_blockOf rfl rfl rfl (by decide +kernel) ⟨Nat.le_of_ble_eq_true rfl, Nat.le_of_ble_eq_true rfl⟩) (fun _ h => h) 0 wM_0 rfl rfl rfl rfl (Nat.le_of_ble_eq_true rfl) ⟨Nat.zero_le _, Nat.zero_le _⟩ dX5_block_27 ?_
        refine z_callI0 (As := [.int (iZ (blockOf f b w))]) (rest := []) ⟨mx, mb, mml, mo, mts⟩ hK hA (fun sz => c_X5_tells l D sz y a f sv ai tx sm ln th hh (blockOf f b w) ) (cwV 1 mts gX5_block_X5_tells rfl rfl rfl (by decide +kernel) ⟨Nat.le_of_ble_eq_true rfl, Nat.le_of_ble_eq_true rfl⟩) 0 wM_0 rfl rfl rfl rfl (Nat.le_of_ble_eq_true rfl) ⟨Nat.zero_le _, Nat.zero_le _⟩ dX5_block_30 (fun r30 u30 hu30 => ?_)
        subst hu30
        show Gz pp l ee ({ frames := 3, cells := 0, slots := 0, locals := 68 } : Room) ss mm args below meth cd 3 0 0 Q (Zw D vwCl (va_A wst sz) ss (wM y a f sv ai tx sm ln 0 hh)) 33 [(0, .ref (a 0)), (1, .int (iZ b)), (2, .int (iZ w))] [.int (iZ (blockOf f b w))]
        refine z_goto (tgt := 41) mx mb dX5_block_33 (by decide) ?_
        have hth : thIn b (f 1 - 1) w 4 = 0 := by unfold thIn; rw [if_pos hb, if_pos hb2]
        rw [hQ]
        exact z_retI mx mb mr mlk hK () (by rw [hth]; rfl) (by rw [hth]) dX5_block_41
    · skip
      refine z_aload_n mx mb dX5_block_8 rfl 0 rfl ?_
      refine z_iconst mx mb dX5_block_9 ?_
      refine z_callI0 (As := [.int (iZ 1)]) (rest := []) ⟨mx, mb, mml, mo, mts⟩ hK hA (fun sz => c_X5_fails l D sz y a f sv ai tx sm ln th hh 1 ) (cwV 1 mts gX5_block_X5_fails rfl rfl rfl (by decide +kernel) ⟨Nat.le_of_ble_eq_true rfl, Nat.le_of_ble_eq_true rfl⟩) 0 wM_0 rfl rfl rfl rfl (Nat.le_of_ble_eq_true rfl) ⟨Nat.zero_le _, Nat.zero_le _⟩ dX5_block_10 (fun r10 u10 hu10 => ?_)
      subst hu10
      show Gz pp l ee ({ frames := 3, cells := 0, slots := 0, locals := 68 } : Room) ss mm args below meth cd 3 0 0 Q (Zw D vwCl (va_A wst sz) ss (wM y a f sv ai tx sm ln 1 hh)) 13 [(0, .ref (a 0)), (1, .int (iZ b)), (2, .int (iZ w))] [.int (iZ 0)]
      have hth : thIn b (f 1 - 1) w 4 = 1 := by unfold thIn; rw [if_neg (b2z_e c5)]
      rw [hQ]
      exact z_retI mx mb mr mlk hK () (by rw [hth]; rfl) (by rw [hth]) dX5_block_13
  subst hQ
  subst hw0
  exact hstart

set_option maxRecDepth 100000 in
set_option maxHeartbeats 4000000 in
theorem c_X5_value (l : Launch) (D : va_G) (sz : Nat) (y : Nat → ClassId) (a : Nat → Nat) (f sv ai tx : Int → Int) (sm ln th hh : Int) (w : Int) (hw : -2147483648 ≤ w ∧ w ≤ 2147483647) (hI : Inv 100000 f) : Met l yX5_value wsX5_value ({ frames := 3, cells := 0, slots := 0, locals := 65 } : Room) (zPw D vwCl (zT y) (wM y a f sv ai tx sm ln th hh) sz [.ref (a 0), .int (iZ w)]) (va_Qi (fun (r : Int32) (_ : Unit) => r = iZ (if thOne w 11 = 0 then valueOf f w else 0)) (zB D vwCl (zT y) (wM y a f sv ai tx sm ln th hh) sz (fun _ : Unit => wM y a f sv ai tx sm ln (thOne w 11) hh)) (va_A (wM y a f sv ai tx sm ln th hh) sz)) 0 0 (va_A (wM y a f sv ai tx sm ln th hh) sz) := by
  refine z_headW (cc := cX5_value) (maxL := 2) (ret := (some .int)) [(0, .ref (a 0)), (1, .int (iZ w))] rfl (Nat.le_of_ble_eq_true rfl) (by decide +kernel) rfl ?_
  intro pp ee ss mm below meth cd mx mb mr mml mo mts mlk hK hname hsz hA
  generalize ([.ref (a 0), .int (iZ w)] : List Value).toArray = args at mts ⊢
  obtain ⟨wst, hw0⟩ : ∃ wst, wst = wM y a f sv ai tx sm ln th hh := ⟨_, rfl⟩
  have hA : ∀ q, ss.heap.size ≤ q → va_A wst sz q := by rw [hw0]; exact hA
  obtain ⟨Q, hQ⟩ : ∃ Q, Q = MQ below (va_Qi (fun (r : Int32) (_ : Unit) => r = iZ (if thOne w 11 = 0 then valueOf f w else 0)) (zB D vwCl (zT y) wst sz (fun _ : Unit => wM y a f sv ai tx sm ln (thOne w 11) hh)) (va_A wst sz)) args ss 0 0 (va_A wst sz) := ⟨_, rfl⟩
  have hstart : Gz pp l ee ({ frames := 3, cells := 0, slots := 0, locals := 65 } : Room) ss mm args below meth cd 2 0 0 Q (Zw D vwCl (va_A wst sz) ss (wM y a f sv ai tx sm ln th hh)) 0 [(0, .ref (a 0)), (1, .int (iZ w))] [] := by
    have hX : InvX f := ⟨_, hI, by omega⟩
    have hJ := hX.J
    obtain ⟨hW, hN, hT⟩ := hJ.f
    obtain ⟨w0, w1, w2, w3, w4, w5, w6⟩ := id hW
    obtain ⟨n3, n4, n5, n6, n7, n8, n9, n10⟩ := id hN
    refine z_iload_n mx mb dX5_value_0 rfl 1 rfl ?_
    refine z_iconst mx mb dX5_value_1 ?_
    refine z_bipush mx mb dX5_value_2 (by decide +kernel) ?_
    refine z_callPS (As := [.int (iZ w), .int (iZ 0), .int (iZ 11)]) (rest := []) ⟨mx, mb, mml, mo, mts⟩ hK zgw (c_X5_in l D y w 0 11 (by omega) (by omega) (by omega)) (cwS 3 mts gX5_value_X5_in rfl rfl rfl (by decide +kernel) ⟨Nat.le_of_ble_eq_true rfl, Nat.le_of_ble_eq_true rfl⟩) (fun _ h => nomatch h) rfl rfl (Nat.le_of_ble_eq_true rfl) ⟨Nat.zero_le _, Nat.zero_le _⟩ dX5_value_4 ?_
    refine z_if_eq (tgt := 22) mx mb (b2z_rng _) dX5_value_7 (by decide) (fun c7 => ?_) (fun c7 => ?_)
    · skip
      refine z_aload_n mx mb dX5_value_22 rfl 0 rfl ?_
      refine z_iconst mx mb dX5_value_23 ?_
      refine z_callI0 (As := [.int (iZ 1)]) (rest := []) ⟨mx, mb, mml, mo, mts⟩ hK hA (fun sz => c_X5_fails l D sz y a f sv ai tx sm ln th hh 1 ) (cwV 1 mts gX5_value_X5_fails rfl rfl rfl (by decide +kernel) ⟨Nat.le_of_ble_eq_true rfl, Nat.le_of_ble_eq_true rfl⟩) 0 wM_0 rfl rfl rfl rfl (Nat.le_of_ble_eq_true rfl) ⟨Nat.zero_le _, Nat.zero_le _⟩ dX5_value_24 (fun r24 u24 hu24 => ?_)
      subst hu24
      show Gz pp l ee ({ frames := 3, cells := 0, slots := 0, locals := 65 } : Room) ss mm args below meth cd 2 0 0 Q (Zw D vwCl (va_A wst sz) ss (wM y a f sv ai tx sm ln 1 hh)) 27 [(0, .ref (a 0)), (1, .int (iZ w))] [.int (iZ 0)]
      have hth : thOne w 11 = 1 := by unfold thOne; rw [if_neg (b2z_e c7)]
      rw [hQ]
      exact z_retI mx mb mr mlk hK () (by rw [hth]; rfl) (by rw [hth]) dX5_value_27
    · skip
      have hb2 := b2z_ne c7
      refine z_aload_n mx mb dX5_value_10 rfl 0 rfl ?_
      refine z_aload_n mx mb dX5_value_11 rfl 0 rfl ?_
      refine z_iload_n mx mb dX5_value_12 rfl 1 rfl ?_
      refine z_callP (As := [.int (iZ w)]) (rest := [.ref (a 0)]) ⟨mx, mb, mml, mo, mts⟩ hK zgw (c_X5_valueOf l D y a f sv ai tx sm ln th hh w (by omega) (by assumption)) (cwV 1 mts gX5_value_X5_valueOf rfl rfl rfl (by decide +kernel) ⟨Nat.le_of_ble_eq_true rfl, Nat.le_of_ble_eq_true rfl⟩) (fun _ h => h) 0 wM_0 rfl rfl rfl rfl (Nat.le_of_ble_eq_true rfl) ⟨Nat.zero_le _, Nat.zero_le _⟩ dX5_value_13 ?_
      refine z_callI0 (As := [.int (iZ (valueOf f w))]) (rest := []) ⟨mx, mb, mml, mo, mts⟩ hK hA (fun sz => c_X5_tells l D sz y a f sv ai tx sm ln th hh (valueOf f w) ) (cwV 1 mts gX5_value_X5_tells rfl rfl rfl (by decide +kernel) ⟨Nat.le_of_ble_eq_true rfl, Nat.le_of_ble_eq_true rfl⟩) 0 wM_0 rfl rfl rfl rfl (Nat.le_of_ble_eq_true rfl) ⟨Nat.zero_le _, Nat.zero_le _⟩ dX5_value_16 (fun r16 u16 hu16 => ?_)
      subst hu16
      show Gz pp l ee ({ frames := 3, cells := 0, slots := 0, locals := 65 } : Room) ss mm args below meth cd 2 0 0 Q (Zw D vwCl (va_A wst sz) ss (wM y a f sv ai tx sm ln 0 hh)) 19 [(0, .ref (a 0)), (1, .int (iZ w))] [.int (iZ (valueOf f w))]
      refine z_goto (tgt := 27) mx mb dX5_value_19 (by decide) ?_
      have hth : thOne w 11 = 0 := by unfold thOne; rw [if_pos hb2]
      rw [hQ]
      exact z_retI mx mb mr mlk hK () (by rw [hth]; rfl) (by rw [hth]) dX5_value_27
  subst hQ
  subst hw0
  exact hstart

theorem in_X5_dispatch_X5 : ∀ w ∈ wsX50, w ∈ wsX5_dispatch := by decide +kernel
set_option maxRecDepth 100000 in
set_option maxHeartbeats 4000000 in
theorem c_X5_dispatch (l : Launch) (D : va_G) (sz : Nat) (y : Nat → ClassId) (a : Nat → Nat) (f sv ai tx : Int → Int) (sm ln th hh : Int) (i w : Int) (hi : -2147483648 ≤ i ∧ i ≤ 2147483647) (hw : -2147483648 ≤ w ∧ w ≤ 2147483647) (hI : Inv 100000 f) : Met l yX5_dispatch wsX5_dispatch ({ frames := 1, cells := 0, slots := 0, locals := 22 } : Room) (zPw D vwCl (zT y) (wM y a f sv ai tx sm ln th hh) sz [.ref (a 0), .int (iZ i), .int (iZ w)]) (va_Qi (fun (r : Int32) (_ : Unit) => r = iZ (if thIn i (f 10 - 1) w 1 = 0 then f (111 + 2 * (f 10 - 1 - i) + w) else 0)) (zB D vwCl (zT y) (wM y a f sv ai tx sm ln th hh) sz (fun _ : Unit => wM y a f sv ai tx sm ln (thIn i (f 10 - 1) w 1) hh)) (va_A (wM y a f sv ai tx sm ln th hh) sz)) 0 0 (va_A (wM y a f sv ai tx sm ln th hh) sz) := by
  refine z_headW (cc := cX5_dispatch) (maxL := 3) (ret := (some .int)) [(0, .ref (a 0)), (1, .int (iZ i)), (2, .int (iZ w))] rfl (Nat.le_of_ble_eq_true rfl) (by decide +kernel) rfl ?_
  intro pp ee ss mm below meth cd mx mb mr mml mo mts mlk hK hname hsz hA
  generalize ([.ref (a 0), .int (iZ i), .int (iZ w)] : List Value).toArray = args at mts ⊢
  obtain ⟨wst, hw0⟩ : ∃ wst, wst = wM y a f sv ai tx sm ln th hh := ⟨_, rfl⟩
  have hA : ∀ q, ss.heap.size ≤ q → va_A wst sz q := by rw [hw0]; exact hA
  obtain ⟨Q, hQ⟩ : ∃ Q, Q = MQ below (va_Qi (fun (r : Int32) (_ : Unit) => r = iZ (if thIn i (f 10 - 1) w 1 = 0 then f (111 + 2 * (f 10 - 1 - i) + w) else 0)) (zB D vwCl (zT y) wst sz (fun _ : Unit => wM y a f sv ai tx sm ln (thIn i (f 10 - 1) w 1) hh)) (va_A wst sz)) args ss 0 0 (va_A wst sz) := ⟨_, rfl⟩
  have hstart : Gz pp l ee ({ frames := 1, cells := 0, slots := 0, locals := 22 } : Room) ss mm args below meth cd 3 0 0 Q (Zw D vwCl (va_A wst sz) ss (wM y a f sv ai tx sm ln th hh)) 0 [(0, .ref (a 0)), (1, .int (iZ i)), (2, .int (iZ w))] [] := by
    have hX : InvX f := ⟨_, hI, by omega⟩
    have hJ := hX.J
    obtain ⟨hW, hN, hT⟩ := hJ.f
    obtain ⟨w0, w1, w2, w3, w4, w5, w6⟩ := id hW
    obtain ⟨n3, n4, n5, n6, n7, n8, n9, n10⟩ := id hN
    refine z_iload_n mx mb dX5_dispatch_0 rfl 1 rfl ?_
    refine z_iconst mx mb dX5_dispatch_1 ?_
    refine z_aload_n mx mb dX5_dispatch_2 rfl 0 rfl ?_
    refine z_get (C := RX5) (T := TX5) (N := 8) mx mb mts (in_X5_dispatch_X5) mo hK zgw 0 wM_0 rfl 0 (by decide) (mts _ (List.mem_of_getElem? (i := 1) rfl)) (fun _ h9 => h9) rfl dX5_dispatch_3 ?_
    refine z_bipush mx mb dX5_dispatch_6 (by decide +kernel) ?_
    refine z_iald mx mb hK zgw 1 0 wM_1 rfl (by decide) (by omega) dX5_dispatch_8 ?_
    refine z_iconst mx mb dX5_dispatch_9 ?_
    refine z_isub mx mb dX5_dispatch_10 ?_
    refine z_callPS (As := [.int (iZ i), .int (iZ 0), .int (iZ ((f 10) - 1))]) (rest := []) ⟨mx, mb, mml, mo, mts⟩ hK zgw (c_X5_in l D y i 0 ((f 10) - 1) (by omega) (by omega) (by omega)) (cwS 3 mts gX5_dispatch_X5_in rfl rfl rfl (by decide +kernel) ⟨Nat.le_of_ble_eq_true rfl, Nat.le_of_ble_eq_true rfl⟩) (fun _ h => nomatch h) rfl rfl (Nat.le_of_ble_eq_true rfl) ⟨Nat.zero_le _, Nat.zero_le _⟩ dX5_dispatch_11 ?_
    refine z_if_ne (tgt := 23) mx mb (b2z_rng _) dX5_dispatch_14 (by decide) (fun c14 => ?_) (fun c14 => ?_)
    · skip
      have hb := b2z_ne c14
      refine z_iload_n mx mb dX5_dispatch_23 rfl 2 rfl ?_
      refine z_iconst mx mb dX5_dispatch_24 ?_
      refine z_iconst mx mb dX5_dispatch_25 ?_
      refine z_callPS (As := [.int (iZ w), .int (iZ 0), .int (iZ 1)]) (rest := []) ⟨mx, mb, mml, mo, mts⟩ hK zgw (c_X5_in l D y w 0 1 (by omega) (by omega) (by omega)) (cwS 3 mts gX5_dispatch_X5_in rfl rfl rfl (by decide +kernel) ⟨Nat.le_of_ble_eq_true rfl, Nat.le_of_ble_eq_true rfl⟩) (fun _ h => nomatch h) rfl rfl (Nat.le_of_ble_eq_true rfl) ⟨Nat.zero_le _, Nat.zero_le _⟩ dX5_dispatch_26 ?_
      refine z_if_eq (tgt := 62) mx mb (b2z_rng _) dX5_dispatch_29 (by decide) (fun c29 => ?_) (fun c29 => ?_)
      · skip
        refine z_aload_n mx mb dX5_dispatch_62 rfl 0 rfl ?_
        refine z_iconst mx mb dX5_dispatch_63 ?_
        refine z_callI0 (As := [.int (iZ 2)]) (rest := []) ⟨mx, mb, mml, mo, mts⟩ hK hA (fun sz => c_X5_fails l D sz y a f sv ai tx sm ln th hh 2 ) (cwV 1 mts gX5_dispatch_X5_fails rfl rfl rfl (by decide +kernel) ⟨Nat.le_of_ble_eq_true rfl, Nat.le_of_ble_eq_true rfl⟩) 0 wM_0 rfl rfl rfl rfl (Nat.le_of_ble_eq_true rfl) ⟨Nat.zero_le _, Nat.zero_le _⟩ dX5_dispatch_64 (fun r64 u64 hu64 => ?_)
        subst hu64
        show Gz pp l ee ({ frames := 1, cells := 0, slots := 0, locals := 22 } : Room) ss mm args below meth cd 3 0 0 Q (Zw D vwCl (va_A wst sz) ss (wM y a f sv ai tx sm ln 2 hh)) 67 [(0, .ref (a 0)), (1, .int (iZ i)), (2, .int (iZ w))] [.int (iZ 0)]
        have hth : thIn i (f 10 - 1) w 1 = 2 := by unfold thIn; rw [if_pos hb, if_neg (b2z_e c29)]
        rw [hQ]
        exact z_retI mx mb mr mlk hK () (by rw [hth]; rfl) (by rw [hth]) dX5_dispatch_67
      · skip
        have hb2 := b2z_ne c29
        refine z_aload_n mx mb dX5_dispatch_32 rfl 0 rfl ?_
        refine z_aload_n mx mb dX5_dispatch_33 rfl 0 rfl ?_
        refine z_get (C := RX5) (T := TX5) (N := 8) mx mb mts (in_X5_dispatch_X5) mo hK zgw 0 wM_0 rfl 0 (by decide) (mts _ (List.mem_of_getElem? (i := 1) rfl)) (fun _ h9 => h9) rfl dX5_dispatch_34 ?_
        refine z_bipush mx mb dX5_dispatch_37 (by decide +kernel) ?_
        refine z_iconst mx mb dX5_dispatch_39 ?_
        refine z_aload_n mx mb dX5_dispatch_40 rfl 0 rfl ?_
        refine z_get (C := RX5) (T := TX5) (N := 8) mx mb mts (in_X5_dispatch_X5) mo hK zgw 0 wM_0 rfl 0 (by decide) (mts _ (List.mem_of_getElem? (i := 1) rfl)) (fun _ h9 => h9) rfl dX5_dispatch_41 ?_
        refine z_bipush mx mb dX5_dispatch_44 (by decide +kernel) ?_
        refine z_iald mx mb hK zgw 1 0 wM_1 rfl (by decide) (by omega) dX5_dispatch_46 ?_
        refine z_iconst mx mb dX5_dispatch_47 ?_
        refine z_isub mx mb dX5_dispatch_48 ?_
        refine z_iload_n mx mb dX5_dispatch_49 rfl 1 rfl ?_
        refine z_isub mx mb dX5_dispatch_50 ?_
        refine z_imul mx mb dX5_dispatch_51 ?_
        refine z_iadd mx mb dX5_dispatch_52 ?_
        refine z_iload_n mx mb dX5_dispatch_53 rfl 2 rfl ?_
        refine z_iadd mx mb dX5_dispatch_54 ?_
        refine z_iald mx mb hK zgw 1 0 wM_1 rfl (by decide) (by omega) dX5_dispatch_55 ?_
        refine z_callI0 (As := [.int (iZ (f ((111 + (2 * (((f 10) - 1) - i))) + w)))]) (rest := []) ⟨mx, mb, mml, mo, mts⟩ hK hA (fun sz => c_X5_tells l D sz y a f sv ai tx sm ln th hh (f ((111 + (2 * (((f 10) - 1) - i))) + w)) ) (cwV 1 mts gX5_dispatch_X5_tells rfl rfl rfl (by decide +kernel) ⟨Nat.le_of_ble_eq_true rfl, Nat.le_of_ble_eq_true rfl⟩) 0 wM_0 rfl rfl rfl rfl (Nat.le_of_ble_eq_true rfl) ⟨Nat.zero_le _, Nat.zero_le _⟩ dX5_dispatch_56 (fun r56 u56 hu56 => ?_)
        subst hu56
        show Gz pp l ee ({ frames := 1, cells := 0, slots := 0, locals := 22 } : Room) ss mm args below meth cd 3 0 0 Q (Zw D vwCl (va_A wst sz) ss (wM y a f sv ai tx sm ln 0 hh)) 59 [(0, .ref (a 0)), (1, .int (iZ i)), (2, .int (iZ w))] [.int (iZ (f ((111 + (2 * (((f 10) - 1) - i))) + w)))]
        refine z_goto (tgt := 67) mx mb dX5_dispatch_59 (by decide) ?_
        have hth : thIn i (f 10 - 1) w 1 = 0 := by unfold thIn; rw [if_pos hb, if_pos hb2]
        rw [hQ]
        exact z_retI mx mb mr mlk hK () (by rw [hth]; rfl) (by rw [hth]) dX5_dispatch_67
    · skip
      refine z_aload_n mx mb dX5_dispatch_17 rfl 0 rfl ?_
      refine z_iconst mx mb dX5_dispatch_18 ?_
      refine z_callI0 (As := [.int (iZ 1)]) (rest := []) ⟨mx, mb, mml, mo, mts⟩ hK hA (fun sz => c_X5_fails l D sz y a f sv ai tx sm ln th hh 1 ) (cwV 1 mts gX5_dispatch_X5_fails rfl rfl rfl (by decide +kernel) ⟨Nat.le_of_ble_eq_true rfl, Nat.le_of_ble_eq_true rfl⟩) 0 wM_0 rfl rfl rfl rfl (Nat.le_of_ble_eq_true rfl) ⟨Nat.zero_le _, Nat.zero_le _⟩ dX5_dispatch_19 (fun r19 u19 hu19 => ?_)
      subst hu19
      show Gz pp l ee ({ frames := 1, cells := 0, slots := 0, locals := 22 } : Room) ss mm args below meth cd 3 0 0 Q (Zw D vwCl (va_A wst sz) ss (wM y a f sv ai tx sm ln 1 hh)) 22 [(0, .ref (a 0)), (1, .int (iZ i)), (2, .int (iZ w))] [.int (iZ 0)]
      have hth : thIn i (f 10 - 1) w 1 = 1 := by unfold thIn; rw [if_neg (b2z_e c14)]
      rw [hQ]
      exact z_retI mx mb mr mlk hK () (by rw [hth]; rfl) (by rw [hth]) dX5_dispatch_22
  subst hQ
  subst hw0
  exact hstart

set_option maxRecDepth 100000 in
set_option maxHeartbeats 4000000 in
theorem c_X5_why (l : Launch) (D : va_G) (sz : Nat) (y : Nat → ClassId) (a : Nat → Nat) (f sv ai tx : Int → Int) (sm ln th hh : Int) (t : Int) (ht : -2147483648 ≤ t ∧ t ≤ 2147483647) (hI : Inv 100000 f) : Met l yX5_why wsX5_why ({ frames := 5, cells := 0, slots := 0, locals := 114 } : Room) (zPw D vwCl (zT y) (wM y a f sv ai tx sm ln th hh) sz [.ref (a 0), .int (iZ t)]) (va_Qi (fun (r : Int32) (_ : Unit) => r = iZ (if thOne t (f 2 - 1) = 0 then whyOf f t else 0)) (zB D vwCl (zT y) (wM y a f sv ai tx sm ln th hh) sz (fun _ : Unit => wM y a f sv ai tx sm ln (thOne t (f 2 - 1)) hh)) (va_A (wM y a f sv ai tx sm ln th hh) sz)) 0 0 (va_A (wM y a f sv ai tx sm ln th hh) sz) := by
  refine z_headW (cc := cX5_why) (maxL := 2) (ret := (some .int)) [(0, .ref (a 0)), (1, .int (iZ t))] rfl (Nat.le_of_ble_eq_true rfl) (by decide +kernel) rfl ?_
  intro pp ee ss mm below meth cd mx mb mr mml mo mts mlk hK hname hsz hA
  generalize ([.ref (a 0), .int (iZ t)] : List Value).toArray = args at mts ⊢
  obtain ⟨wst, hw0⟩ : ∃ wst, wst = wM y a f sv ai tx sm ln th hh := ⟨_, rfl⟩
  have hA : ∀ q, ss.heap.size ≤ q → va_A wst sz q := by rw [hw0]; exact hA
  obtain ⟨Q, hQ⟩ : ∃ Q, Q = MQ below (va_Qi (fun (r : Int32) (_ : Unit) => r = iZ (if thOne t (f 2 - 1) = 0 then whyOf f t else 0)) (zB D vwCl (zT y) wst sz (fun _ : Unit => wM y a f sv ai tx sm ln (thOne t (f 2 - 1)) hh)) (va_A wst sz)) args ss 0 0 (va_A wst sz) := ⟨_, rfl⟩
  have hstart : Gz pp l ee ({ frames := 5, cells := 0, slots := 0, locals := 114 } : Room) ss mm args below meth cd 2 0 0 Q (Zw D vwCl (va_A wst sz) ss (wM y a f sv ai tx sm ln th hh)) 0 [(0, .ref (a 0)), (1, .int (iZ t))] [] := by
    have hX : InvX f := ⟨_, hI, by omega⟩
    have hJ := hX.J
    obtain ⟨hW, hN, hT⟩ := hJ.f
    obtain ⟨w0, w1, w2, w3, w4, w5, w6⟩ := id hW
    obtain ⟨n3, n4, n5, n6, n7, n8, n9, n10⟩ := id hN
    refine z_aload_n mx mb dX5_why_0 rfl 0 rfl ?_
    refine z_iload_n mx mb dX5_why_1 rfl 1 rfl ?_
    refine z_callP (As := [.int (iZ t)]) (rest := []) ⟨mx, mb, mml, mo, mts⟩ hK zgw (c_X5_isTrain l D y a f sv ai tx sm ln th hh t (by omega) (by omega)) (cwV 1 mts gX5_why_X5_isTrain rfl rfl rfl (by decide +kernel) ⟨Nat.le_of_ble_eq_true rfl, Nat.le_of_ble_eq_true rfl⟩) (fun _ h => h) 0 wM_0 rfl rfl rfl rfl (Nat.le_of_ble_eq_true rfl) ⟨Nat.zero_le _, Nat.zero_le _⟩ dX5_why_2 ?_
    refine z_if_eq (tgt := 20) mx mb (b2z_rng _) dX5_why_5 (by decide) (fun c5 => ?_) (fun c5 => ?_)
    · skip
      refine z_aload_n mx mb dX5_why_20 rfl 0 rfl ?_
      refine z_iconst mx mb dX5_why_21 ?_
      refine z_callI0 (As := [.int (iZ 1)]) (rest := []) ⟨mx, mb, mml, mo, mts⟩ hK hA (fun sz => c_X5_fails l D sz y a f sv ai tx sm ln th hh 1 ) (cwV 1 mts gX5_why_X5_fails rfl rfl rfl (by decide +kernel) ⟨Nat.le_of_ble_eq_true rfl, Nat.le_of_ble_eq_true rfl⟩) 0 wM_0 rfl rfl rfl rfl (Nat.le_of_ble_eq_true rfl) ⟨Nat.zero_le _, Nat.zero_le _⟩ dX5_why_22 (fun r22 u22 hu22 => ?_)
      subst hu22
      show Gz pp l ee ({ frames := 5, cells := 0, slots := 0, locals := 114 } : Room) ss mm args below meth cd 2 0 0 Q (Zw D vwCl (va_A wst sz) ss (wM y a f sv ai tx sm ln 1 hh)) 25 [(0, .ref (a 0)), (1, .int (iZ t))] [.int (iZ 0)]
      have hth : thOne t (f 2 - 1) = 1 := by unfold thOne; rw [if_neg (b2z_e c5)]
      rw [hQ]
      exact z_retI mx mb mr mlk hK () (by rw [hth]; rfl) (by rw [hth]) dX5_why_25
    · skip
      have hb2 := b2z_ne c5
      obtain ⟨q1, q2, q3, q5, q7⟩ := hT t (by omega) (by omega)
      refine z_aload_n mx mb dX5_why_8 rfl 0 rfl ?_
      refine z_aload_n mx mb dX5_why_9 rfl 0 rfl ?_
      refine z_iload_n mx mb dX5_why_10 rfl 1 rfl ?_
      refine z_callP (As := [.int (iZ t)]) (rest := [.ref (a 0)]) ⟨mx, mb, mml, mo, mts⟩ hK zgw (c_X5_whyOf l D y a f sv ai tx sm ln th hh t (by omega) (by omega) (by assumption) (by assumption)) (cwV 1 mts gX5_why_X5_whyOf rfl rfl rfl (by decide +kernel) ⟨Nat.le_of_ble_eq_true rfl, Nat.le_of_ble_eq_true rfl⟩) (fun _ h => h) 0 wM_0 rfl rfl rfl rfl (Nat.le_of_ble_eq_true rfl) ⟨Nat.zero_le _, Nat.zero_le _⟩ dX5_why_11 ?_
      refine z_callI0 (As := [.int (iZ (whyOf f t))]) (rest := []) ⟨mx, mb, mml, mo, mts⟩ hK hA (fun sz => c_X5_tells l D sz y a f sv ai tx sm ln th hh (whyOf f t) ) (cwV 1 mts gX5_why_X5_tells rfl rfl rfl (by decide +kernel) ⟨Nat.le_of_ble_eq_true rfl, Nat.le_of_ble_eq_true rfl⟩) 0 wM_0 rfl rfl rfl rfl (Nat.le_of_ble_eq_true rfl) ⟨Nat.zero_le _, Nat.zero_le _⟩ dX5_why_14 (fun r14 u14 hu14 => ?_)
      subst hu14
      show Gz pp l ee ({ frames := 5, cells := 0, slots := 0, locals := 114 } : Room) ss mm args below meth cd 2 0 0 Q (Zw D vwCl (va_A wst sz) ss (wM y a f sv ai tx sm ln 0 hh)) 17 [(0, .ref (a 0)), (1, .int (iZ t))] [.int (iZ (whyOf f t))]
      refine z_goto (tgt := 25) mx mb dX5_why_17 (by decide) ?_
      have hth : thOne t (f 2 - 1) = 0 := by unfold thOne; rw [if_pos hb2]
      rw [hQ]
      exact z_retI mx mb mr mlk hK () (by rw [hth]; rfl) (by rw [hth]) dX5_why_25
  subst hQ
  subst hw0
  exact hstart

set_option maxRecDepth 100000 in
set_option maxHeartbeats 4000000 in
theorem c_X5_ticksToStation (l : Launch) (D : va_G) (sz : Nat) (y : Nat → ClassId) (a : Nat → Nat) (f sv ai tx : Int → Int) (sm ln th hh : Int) (t : Int) (ht : -2147483648 ≤ t ∧ t ≤ 2147483647) (hI : Inv 100000 f) : Met l yX5_ticksToStation wsX5_ticksToStation ({ frames := 7, cells := 0, slots := 0, locals := 159 } : Room) (zPw D vwCl (zT y) (wM y a f sv ai tx sm ln th hh) sz [.ref (a 0), .int (iZ t)]) (va_Qi (fun (r : Int32) (_ : Int → Int) => r = iZ (if thOne t (f 2 - 1) = 0 then toStation f t else 0)) (zB D vwCl (zT y) (wM y a f sv ai tx sm ln th hh) sz (fun ai' : Int → Int => wM y a f sv ai' tx sm ln (thOne t (f 2 - 1)) hh)) (va_A (wM y a f sv ai tx sm ln th hh) sz)) 0 0 (va_A (wM y a f sv ai tx sm ln th hh) sz) := by
  refine z_headW (cc := cX5_ticksToStation) (maxL := 5) (ret := (some .int)) [(0, .ref (a 0)), (1, .int (iZ t))] rfl (Nat.le_of_ble_eq_true rfl) (by decide +kernel) rfl ?_
  intro pp ee ss mm below meth cd mx mb mr mml mo mts mlk hK hname hsz hA
  generalize ([.ref (a 0), .int (iZ t)] : List Value).toArray = args at mts ⊢
  obtain ⟨wst, hw0⟩ : ∃ wst, wst = wM y a f sv ai tx sm ln th hh := ⟨_, rfl⟩
  have hA : ∀ q, ss.heap.size ≤ q → va_A wst sz q := by rw [hw0]; exact hA
  obtain ⟨Q, hQ⟩ : ∃ Q, Q = MQ below (va_Qi (fun (r : Int32) (_ : Int → Int) => r = iZ (if thOne t (f 2 - 1) = 0 then toStation f t else 0)) (zB D vwCl (zT y) wst sz (fun ai' : Int → Int => wM y a f sv ai' tx sm ln (thOne t (f 2 - 1)) hh)) (va_A wst sz)) args ss 0 0 (va_A wst sz) := ⟨_, rfl⟩
  have hstart : Gz pp l ee ({ frames := 7, cells := 0, slots := 0, locals := 159 } : Room) ss mm args below meth cd 5 0 0 Q (Zw D vwCl (va_A wst sz) ss (wM y a f sv ai tx sm ln th hh)) 0 [(0, .ref (a 0)), (1, .int (iZ t))] [] := by
    have hX : InvX f := ⟨_, hI, by omega⟩
    have hJ := hX.J
    obtain ⟨hW, hN, hT⟩ := hJ.f
    obtain ⟨w0, w1, w2, w3, w4, w5, w6⟩ := id hW
    obtain ⟨n3, n4, n5, n6, n7, n8, n9, n10⟩ := id hN
    refine z_aload_n mx mb dX5_ticksToStation_0 rfl 0 rfl ?_
    refine z_iload_n mx mb dX5_ticksToStation_1 rfl 1 rfl ?_
    refine z_callP (As := [.int (iZ t)]) (rest := []) ⟨mx, mb, mml, mo, mts⟩ hK zgw (c_X5_isTrain l D y a f sv ai tx sm ln th hh t (by omega) (by omega)) (cwV 1 mts gX5_ticksToStation_X5_isTrain rfl rfl rfl (by decide +kernel) ⟨Nat.le_of_ble_eq_true rfl, Nat.le_of_ble_eq_true rfl⟩) (fun _ h => h) 0 wM_0 rfl rfl rfl rfl (Nat.le_of_ble_eq_true rfl) ⟨Nat.zero_le _, Nat.zero_le _⟩ dX5_ticksToStation_2 ?_
    refine z_if_ne (tgt := 14) mx mb (b2z_rng _) dX5_ticksToStation_5 (by decide) (fun c5 => ?_) (fun c5 => ?_)
    · skip
      have hb := b2z_ne c5
      obtain ⟨q1, q2, q3, q5, q7⟩ := hT t (by omega) (by omega)
      refine z_aload_n mx mb dX5_ticksToStation_14 rfl 0 rfl ?_
      refine z_callV0 (As := []) (rest := []) ⟨mx, mb, mml, mo, mts⟩ hK hA (fun sz => c_X5_laysAside l D sz y a f sv ai tx sm ln th hh  ) (cwV 0 mts gX5_ticksToStation_X5_laysAside rfl rfl rfl (by decide +kernel) ⟨Nat.le_of_ble_eq_true rfl, Nat.le_of_ble_eq_true rfl⟩) 0 wM_0 rfl rfl rfl rfl (Nat.le_of_ble_eq_true rfl) ⟨Nat.zero_le _, Nat.zero_le _⟩ dX5_ticksToStation_15 (fun u15 hu15 => ?_)
      show Gz pp l ee ({ frames := 7, cells := 0, slots := 0, locals := 159 } : Room) ss mm args below meth cd 5 0 0 Q (Zw D vwCl (va_A wst sz) ss (wM y a f sv (cpN ai f 171) tx sm ln th hh)) 18 [(0, .ref (a 0)), (1, .int (iZ t))] []
      refine z_aload_n mx mb dX5_ticksToStation_18 rfl 0 rfl ?_
      refine z_iload_n mx mb dX5_ticksToStation_19 rfl 1 rfl ?_
      refine z_bipush mx mb dX5_ticksToStation_20 (by decide +kernel) ?_
      refine z_callP (As := [.int (iZ t), .int (iZ 7)]) (rest := []) ⟨mx, mb, mml, mo, mts⟩ hK zgw (c_X5_of l D y a f sv (cpN ai f 171) tx sm ln th hh t 7 (by omega)) (cwV 2 mts gX5_ticksToStation_X5_of rfl rfl rfl (by decide +kernel) ⟨Nat.le_of_ble_eq_true rfl, Nat.le_of_ble_eq_true rfl⟩) (fun _ h => h) 0 wM_0 rfl rfl rfl rfl (Nat.le_of_ble_eq_true rfl) ⟨Nat.zero_le _, Nat.zero_le _⟩ dX5_ticksToStation_22 ?_
      refine z_istore_n mx mb dX5_ticksToStation_25 rfl (by decide) [(2, .int (iZ (f (79 + 8 * t + 7)))), (0, .ref (a 0)), (1, .int (iZ t))] rfl ?_
      refine z_iconst mx mb dX5_ticksToStation_26 ?_
      refine z_istore_n mx mb dX5_ticksToStation_27 rfl (by decide) [(3, .int (iZ 0)), (2, .int (iZ (f (79 + 8 * t + 7)))), (0, .ref (a 0)), (1, .int (iZ t))] rfl ?_
      have lp28 : ∀ (nn : Nat) (i : Nat) (x3 : Int) (g : Int → Int), 2000 - i < nn → ((i : Int) ≤ 2000) → (x3 = (i : Int)) → (g = ticks f i) → (stopS f t (2000 - i) i = stopS f t 2000 0) → Gz pp l ee ({ frames := 7, cells := 0, slots := 0, locals := 159 } : Room) ss mm args below meth cd 5 0 0 Q (Zw D vwCl (va_A wst sz) ss (wM y a g sv (cpN ai f 171) tx sm ln th hh)) 28 [(0, .ref (a 0)), (1, .int (iZ t)), (2, .int (iZ (f (79 + 8 * t + 7)))), (3, .int (iZ x3))] [] := by
        intro nn
        induction nn with
        | zero => exact fun i x3 g hm => absurd hm (Nat.not_lt_zero _)
        | succ nn ih =>
          intro i x3 g hm hi e1 eg hst
          have tiX : InvX g := by rw [eg]; exact ticks_InvX (Inv_le hI (by omega)) i (by omega)
          have tw := tiX.J.f
          have tn := (tw.2.2 t (by omega) (by omega)).2.2.2.2
          refine z_iload_n mx mb dX5_ticksToStation_28 rfl 3 rfl ?_
          refine z_sipush mx mb dX5_ticksToStation_29 (by decide +kernel) ?_
          refine z_icmp_ge (tgt := 56) mx mb (by omega) (by omega) dX5_ticksToStation_32 (by decide) (fun c32 => ?_) (fun c32 => ?_)
          · skip
            have hs2 : stopS f t 2000 0 = i := by rw [← hst, show 2000 - i = 0 by omega]; rfl
            refine z_aload_n mx mb dX5_ticksToStation_56 rfl 0 rfl ?_
            refine z_iload_n mx mb dX5_ticksToStation_57 rfl 1 rfl ?_
            refine z_bipush mx mb dX5_ticksToStation_58 (by decide +kernel) ?_
            refine z_callP (As := [.int (iZ t), .int (iZ 7)]) (rest := []) ⟨mx, mb, mml, mo, mts⟩ hK zgw (c_X5_of l D y a g sv (cpN ai f 171) tx sm ln th hh t 7 (by omega)) (cwV 2 mts gX5_ticksToStation_X5_of rfl rfl rfl (by decide +kernel) ⟨Nat.le_of_ble_eq_true rfl, Nat.le_of_ble_eq_true rfl⟩) (fun _ h => h) 0 wM_0 rfl rfl rfl rfl (Nat.le_of_ble_eq_true rfl) ⟨Nat.zero_le _, Nat.zero_le _⟩ dX5_ticksToStation_60 ?_
            refine z_iload_n mx mb dX5_ticksToStation_63 rfl 2 rfl ?_
            have jn74 : ∀ (z : Int), (z = b2z (f (79 + 8 * t + 7) < g (79 + 8 * t + 7))) → Gz pp l ee ({ frames := 7, cells := 0, slots := 0, locals := 159 } : Room) ss mm args below meth cd 5 0 0 Q (Zw D vwCl (va_A wst sz) ss (wM y a g sv (cpN ai f 171) tx sm ln th hh)) 74 [(0, .ref (a 0)), (1, .int (iZ t)), (2, .int (iZ (f (79 + 8 * t + 7)))), (3, .int (iZ x3)), (4, .int (iZ z))] [] := by
              intro z ez
              have hz : -2147483648 ≤ z ∧ z ≤ 2147483647 := by rw [ez]; exact b2z_rng _
              refine z_aload_n mx mb dX5_ticksToStation_74 rfl 0 rfl ?_
              refine z_callV0 (As := []) (rest := []) ⟨mx, mb, mml, mo, mts⟩ hK hA (fun sz => c_X5_takesBack l D sz y a g sv (cpN ai f 171) tx sm ln th hh  ) (cwV 0 mts gX5_ticksToStation_X5_takesBack rfl rfl rfl (by decide +kernel) ⟨Nat.le_of_ble_eq_true rfl, Nat.le_of_ble_eq_true rfl⟩) 0 wM_0 rfl rfl rfl rfl (Nat.le_of_ble_eq_true rfl) ⟨Nat.zero_le _, Nat.zero_le _⟩ dX5_ticksToStation_75 (fun u75 hu75 => ?_)
              show Gz pp l ee ({ frames := 7, cells := 0, slots := 0, locals := 159 } : Room) ss mm args below meth cd 5 0 0 Q (Zw D vwCl (va_A wst sz) ss (wM y a (cpN g (cpN ai f 171) 171) sv (cpN ai f 171) tx sm ln th hh)) 78 [(0, .ref (a 0)), (1, .int (iZ t)), (2, .int (iZ (f (79 + 8 * t + 7)))), (3, .int (iZ x3)), (4, .int (iZ z))] []
              refine z_I (fun H locs q => wM_ext (g := f) (fun i i0 i1 => by rw [cpN_at _ _ _ i0, if_pos (by omega), cpN_at _ _ _ i0, if_pos (by omega)]) H locs q) ?_
              refine z_aload_n mx mb dX5_ticksToStation_78 rfl 0 rfl ?_
              refine z_iload mx mb dX5_ticksToStation_79 4 rfl ?_
              refine z_if_eq (tgt := 88) mx mb (by omega) dX5_ticksToStation_81 (by decide) (fun c81 => ?_) (fun c81 => ?_)
              · skip
                refine z_iconst mx mb dX5_ticksToStation_88 ?_
                refine z_callI0 (As := [.int (iZ (-1))]) (rest := []) ⟨mx, mb, mml, mo, mts⟩ hK hA (fun sz => c_X5_tells l D sz y a f sv (cpN ai f 171) tx sm ln th hh (-1) ) (cwV 1 mts gX5_ticksToStation_X5_tells rfl rfl rfl (by decide +kernel) ⟨Nat.le_of_ble_eq_true rfl, Nat.le_of_ble_eq_true rfl⟩) 0 wM_0 rfl rfl rfl rfl (Nat.le_of_ble_eq_true rfl) ⟨Nat.zero_le _, Nat.zero_le _⟩ dX5_ticksToStation_89 (fun r89 u89 hu89 => ?_)
                subst hu89
                show Gz pp l ee ({ frames := 7, cells := 0, slots := 0, locals := 159 } : Room) ss mm args below meth cd 5 0 0 Q (Zw D vwCl (va_A wst sz) ss (wM y a f sv (cpN ai f 171) tx sm ln 0 hh)) 92 [(0, .ref (a 0)), (1, .int (iZ t)), (2, .int (iZ (f (79 + 8 * t + 7)))), (3, .int (iZ x3)), (4, .int (iZ z))] [.int (iZ (-1))]
                have hth : thOne t (f 2 - 1) = 0 := by unfold thOne; rw [if_pos hb]
                rw [hQ]
                exact z_retI mx mb mr mlk hK (cpN ai f 171) (by rw [hth, if_pos rfl]; show iZ _ = iZ _; congr 1; unfold toStation; rw [hs2, ← eg, if_neg (b2z_e (ez.symm.trans c81))]; first | done | omega) (by rw [hth]) dX5_ticksToStation_92
              · skip
                refine z_iload_n mx mb dX5_ticksToStation_84 rfl 3 rfl ?_
                refine z_goto (tgt := 89) mx mb dX5_ticksToStation_85 (by decide) ?_
                refine z_callI0 (As := [.int (iZ x3)]) (rest := []) ⟨mx, mb, mml, mo, mts⟩ hK hA (fun sz => c_X5_tells l D sz y a f sv (cpN ai f 171) tx sm ln th hh x3 ) (cwV 1 mts gX5_ticksToStation_X5_tells rfl rfl rfl (by decide +kernel) ⟨Nat.le_of_ble_eq_true rfl, Nat.le_of_ble_eq_true rfl⟩) 0 wM_0 rfl rfl rfl rfl (Nat.le_of_ble_eq_true rfl) ⟨Nat.zero_le _, Nat.zero_le _⟩ dX5_ticksToStation_89 (fun r89 u89 hu89 => ?_)
                subst hu89
                show Gz pp l ee ({ frames := 7, cells := 0, slots := 0, locals := 159 } : Room) ss mm args below meth cd 5 0 0 Q (Zw D vwCl (va_A wst sz) ss (wM y a f sv (cpN ai f 171) tx sm ln 0 hh)) 92 [(0, .ref (a 0)), (1, .int (iZ t)), (2, .int (iZ (f (79 + 8 * t + 7)))), (3, .int (iZ x3)), (4, .int (iZ z))] [.int (iZ x3)]
                have hth : thOne t (f 2 - 1) = 0 := by unfold thOne; rw [if_pos hb]
                rw [hQ]
                exact z_retI mx mb mr mlk hK (cpN ai f 171) (by rw [hth, if_pos rfl]; show iZ _ = iZ _; congr 1; unfold toStation; rw [hs2, ← eg, if_pos (b2z_ne (fun q => c81 (ez.trans q)))]; first | done | omega) (by rw [hth]) dX5_ticksToStation_92
            refine z_icmp_le (tgt := 71) mx mb (by omega) (by omega) dX5_ticksToStation_64 (by decide) (fun c64 => ?_) (fun c64 => ?_)
            · skip
              refine z_iconst mx mb dX5_ticksToStation_71 ?_
              refine z_istore mx mb dX5_ticksToStation_72 (by decide) [(4, .int (iZ 0)), (0, .ref (a 0)), (1, .int (iZ t)), (2, .int (iZ (f (79 + 8 * t + 7)))), (3, .int (iZ x3))] rfl ?_
              refine z_lv [1, 2, 3, 4, 0] rfl ?_
              exact jn74 _ (by exact (b2z_f (by omega)).symm)
            · skip
              refine z_iconst mx mb dX5_ticksToStation_67 ?_
              refine z_goto (tgt := 72) mx mb dX5_ticksToStation_68 (by decide) ?_
              refine z_istore mx mb dX5_ticksToStation_72 (by decide) [(4, .int (iZ 1)), (0, .ref (a 0)), (1, .int (iZ t)), (2, .int (iZ (f (79 + 8 * t + 7)))), (3, .int (iZ x3))] rfl ?_
              refine z_lv [1, 2, 3, 4, 0] rfl ?_
              exact jn74 _ (by exact (b2z_t c64).symm)
          · skip
            refine z_aload_n mx mb dX5_ticksToStation_35 rfl 0 rfl ?_
            refine z_iload_n mx mb dX5_ticksToStation_36 rfl 1 rfl ?_
            refine z_bipush mx mb dX5_ticksToStation_37 (by decide +kernel) ?_
            refine z_callP (As := [.int (iZ t), .int (iZ 7)]) (rest := []) ⟨mx, mb, mml, mo, mts⟩ hK zgw (c_X5_of l D y a g sv (cpN ai f 171) tx sm ln th hh t 7 (by omega)) (cwV 2 mts gX5_ticksToStation_X5_of rfl rfl rfl (by decide +kernel) ⟨Nat.le_of_ble_eq_true rfl, Nat.le_of_ble_eq_true rfl⟩) (fun _ h => h) 0 wM_0 rfl rfl rfl rfl (Nat.le_of_ble_eq_true rfl) ⟨Nat.zero_le _, Nat.zero_le _⟩ dX5_ticksToStation_39 ?_
            refine z_iload_n mx mb dX5_ticksToStation_42 rfl 2 rfl ?_
            refine z_icmp_ne (tgt := 56) mx mb (by omega) (by omega) dX5_ticksToStation_43 (by decide) (fun c43 => ?_) (fun c43 => ?_)
            · skip
              have hs2 : stopS f t 2000 0 = i := by rw [← hst, show 2000 - i = (2000 - (i + 1)) + 1 by omega, stopS, ← eg, if_neg c43]
              refine z_aload_n mx mb dX5_ticksToStation_56 rfl 0 rfl ?_
              refine z_iload_n mx mb dX5_ticksToStation_57 rfl 1 rfl ?_
              refine z_bipush mx mb dX5_ticksToStation_58 (by decide +kernel) ?_
              refine z_callP (As := [.int (iZ t), .int (iZ 7)]) (rest := []) ⟨mx, mb, mml, mo, mts⟩ hK zgw (c_X5_of l D y a g sv (cpN ai f 171) tx sm ln th hh t 7 (by omega)) (cwV 2 mts gX5_ticksToStation_X5_of rfl rfl rfl (by decide +kernel) ⟨Nat.le_of_ble_eq_true rfl, Nat.le_of_ble_eq_true rfl⟩) (fun _ h => h) 0 wM_0 rfl rfl rfl rfl (Nat.le_of_ble_eq_true rfl) ⟨Nat.zero_le _, Nat.zero_le _⟩ dX5_ticksToStation_60 ?_
              refine z_iload_n mx mb dX5_ticksToStation_63 rfl 2 rfl ?_
              have jn74 : ∀ (z : Int), (z = b2z (f (79 + 8 * t + 7) < g (79 + 8 * t + 7))) → Gz pp l ee ({ frames := 7, cells := 0, slots := 0, locals := 159 } : Room) ss mm args below meth cd 5 0 0 Q (Zw D vwCl (va_A wst sz) ss (wM y a g sv (cpN ai f 171) tx sm ln th hh)) 74 [(0, .ref (a 0)), (1, .int (iZ t)), (2, .int (iZ (f (79 + 8 * t + 7)))), (3, .int (iZ x3)), (4, .int (iZ z))] [] := by
                intro z ez
                have hz : -2147483648 ≤ z ∧ z ≤ 2147483647 := by rw [ez]; exact b2z_rng _
                refine z_aload_n mx mb dX5_ticksToStation_74 rfl 0 rfl ?_
                refine z_callV0 (As := []) (rest := []) ⟨mx, mb, mml, mo, mts⟩ hK hA (fun sz => c_X5_takesBack l D sz y a g sv (cpN ai f 171) tx sm ln th hh  ) (cwV 0 mts gX5_ticksToStation_X5_takesBack rfl rfl rfl (by decide +kernel) ⟨Nat.le_of_ble_eq_true rfl, Nat.le_of_ble_eq_true rfl⟩) 0 wM_0 rfl rfl rfl rfl (Nat.le_of_ble_eq_true rfl) ⟨Nat.zero_le _, Nat.zero_le _⟩ dX5_ticksToStation_75 (fun u75 hu75 => ?_)
                show Gz pp l ee ({ frames := 7, cells := 0, slots := 0, locals := 159 } : Room) ss mm args below meth cd 5 0 0 Q (Zw D vwCl (va_A wst sz) ss (wM y a (cpN g (cpN ai f 171) 171) sv (cpN ai f 171) tx sm ln th hh)) 78 [(0, .ref (a 0)), (1, .int (iZ t)), (2, .int (iZ (f (79 + 8 * t + 7)))), (3, .int (iZ x3)), (4, .int (iZ z))] []
                refine z_I (fun H locs q => wM_ext (g := f) (fun i i0 i1 => by rw [cpN_at _ _ _ i0, if_pos (by omega), cpN_at _ _ _ i0, if_pos (by omega)]) H locs q) ?_
                refine z_aload_n mx mb dX5_ticksToStation_78 rfl 0 rfl ?_
                refine z_iload mx mb dX5_ticksToStation_79 4 rfl ?_
                refine z_if_eq (tgt := 88) mx mb (by omega) dX5_ticksToStation_81 (by decide) (fun c81 => ?_) (fun c81 => ?_)
                · skip
                  refine z_iconst mx mb dX5_ticksToStation_88 ?_
                  refine z_callI0 (As := [.int (iZ (-1))]) (rest := []) ⟨mx, mb, mml, mo, mts⟩ hK hA (fun sz => c_X5_tells l D sz y a f sv (cpN ai f 171) tx sm ln th hh (-1) ) (cwV 1 mts gX5_ticksToStation_X5_tells rfl rfl rfl (by decide +kernel) ⟨Nat.le_of_ble_eq_true rfl, Nat.le_of_ble_eq_true rfl⟩) 0 wM_0 rfl rfl rfl rfl (Nat.le_of_ble_eq_true rfl) ⟨Nat.zero_le _, Nat.zero_le _⟩ dX5_ticksToStation_89 (fun r89 u89 hu89 => ?_)
                  subst hu89
                  show Gz pp l ee ({ frames := 7, cells := 0, slots := 0, locals := 159 } : Room) ss mm args below meth cd 5 0 0 Q (Zw D vwCl (va_A wst sz) ss (wM y a f sv (cpN ai f 171) tx sm ln 0 hh)) 92 [(0, .ref (a 0)), (1, .int (iZ t)), (2, .int (iZ (f (79 + 8 * t + 7)))), (3, .int (iZ x3)), (4, .int (iZ z))] [.int (iZ (-1))]
                  have hth : thOne t (f 2 - 1) = 0 := by unfold thOne; rw [if_pos hb]
                  rw [hQ]
                  exact z_retI mx mb mr mlk hK (cpN ai f 171) (by rw [hth, if_pos rfl]; show iZ _ = iZ _; congr 1; unfold toStation; rw [hs2, ← eg, if_neg (b2z_e (ez.symm.trans c81))]; first | done | omega) (by rw [hth]) dX5_ticksToStation_92
                · skip
                  refine z_iload_n mx mb dX5_ticksToStation_84 rfl 3 rfl ?_
                  refine z_goto (tgt := 89) mx mb dX5_ticksToStation_85 (by decide) ?_
                  refine z_callI0 (As := [.int (iZ x3)]) (rest := []) ⟨mx, mb, mml, mo, mts⟩ hK hA (fun sz => c_X5_tells l D sz y a f sv (cpN ai f 171) tx sm ln th hh x3 ) (cwV 1 mts gX5_ticksToStation_X5_tells rfl rfl rfl (by decide +kernel) ⟨Nat.le_of_ble_eq_true rfl, Nat.le_of_ble_eq_true rfl⟩) 0 wM_0 rfl rfl rfl rfl (Nat.le_of_ble_eq_true rfl) ⟨Nat.zero_le _, Nat.zero_le _⟩ dX5_ticksToStation_89 (fun r89 u89 hu89 => ?_)
                  subst hu89
                  show Gz pp l ee ({ frames := 7, cells := 0, slots := 0, locals := 159 } : Room) ss mm args below meth cd 5 0 0 Q (Zw D vwCl (va_A wst sz) ss (wM y a f sv (cpN ai f 171) tx sm ln 0 hh)) 92 [(0, .ref (a 0)), (1, .int (iZ t)), (2, .int (iZ (f (79 + 8 * t + 7)))), (3, .int (iZ x3)), (4, .int (iZ z))] [.int (iZ x3)]
                  have hth : thOne t (f 2 - 1) = 0 := by unfold thOne; rw [if_pos hb]
                  rw [hQ]
                  exact z_retI mx mb mr mlk hK (cpN ai f 171) (by rw [hth, if_pos rfl]; show iZ _ = iZ _; congr 1; unfold toStation; rw [hs2, ← eg, if_pos (b2z_ne (fun q => c81 (ez.trans q)))]; first | done | omega) (by rw [hth]) dX5_ticksToStation_92
              refine z_icmp_le (tgt := 71) mx mb (by omega) (by omega) dX5_ticksToStation_64 (by decide) (fun c64 => ?_) (fun c64 => ?_)
              · skip
                refine z_iconst mx mb dX5_ticksToStation_71 ?_
                refine z_istore mx mb dX5_ticksToStation_72 (by decide) [(4, .int (iZ 0)), (0, .ref (a 0)), (1, .int (iZ t)), (2, .int (iZ (f (79 + 8 * t + 7)))), (3, .int (iZ x3))] rfl ?_
                refine z_lv [1, 2, 3, 4, 0] rfl ?_
                exact jn74 _ (by exact (b2z_f (by omega)).symm)
              · skip
                refine z_iconst mx mb dX5_ticksToStation_67 ?_
                refine z_goto (tgt := 72) mx mb dX5_ticksToStation_68 (by decide) ?_
                refine z_istore mx mb dX5_ticksToStation_72 (by decide) [(4, .int (iZ 1)), (0, .ref (a 0)), (1, .int (iZ t)), (2, .int (iZ (f (79 + 8 * t + 7)))), (3, .int (iZ x3))] rfl ?_
                refine z_lv [1, 2, 3, 4, 0] rfl ?_
                exact jn74 _ (by exact (b2z_t c64).symm)
            · skip
              refine z_aload_n mx mb dX5_ticksToStation_46 rfl 0 rfl ?_
              refine z_callV0 (As := []) (rest := []) ⟨mx, mb, mml, mo, mts⟩ hK hA (fun sz => c_X5_tick l D sz y a g sv (cpN ai f 171) tx sm ln th hh  (by assumption)) (cwV 0 mts gX5_ticksToStation_X5_tick rfl rfl rfl (by decide +kernel) ⟨Nat.le_of_ble_eq_true rfl, Nat.le_of_ble_eq_true rfl⟩) 0 wM_0 rfl rfl rfl rfl (Nat.le_of_ble_eq_true rfl) ⟨Nat.zero_le _, Nat.zero_le _⟩ dX5_ticksToStation_47 (fun u47 hu47 => ?_)
              show Gz pp l ee ({ frames := 7, cells := 0, slots := 0, locals := 159 } : Room) ss mm args below meth cd 5 0 0 Q (Zw D vwCl (va_A wst sz) ss (wM y a (tick g) sv (cpN ai f 171) tx sm ln th hh)) 50 [(0, .ref (a 0)), (1, .int (iZ t)), (2, .int (iZ (f (79 + 8 * t + 7)))), (3, .int (iZ x3))] []
              refine z_iinc mx mb dX5_ticksToStation_50 3 rfl (by decide) [(3, .int (iZ (x3 + 1))), (0, .ref (a 0)), (1, .int (iZ t)), (2, .int (iZ (f (79 + 8 * t + 7))))] rfl ?_
              refine z_goto (tgt := 28) mx mb dX5_ticksToStation_53 (by decide) ?_
              refine z_lv [1, 2, 3, 0] rfl ?_
              exact ih (i + 1) _ _ (by omega) (by omega) (by omega) (by rw [eg]; rfl) (by rw [← hst, show 2000 - i = (2000 - (i + 1)) + 1 by omega, stopS, ← eg, if_pos c43])
      refine z_lv [2, 3, 1, 0] rfl ?_
      exact lp28 _ 0 0 f (Nat.lt_succ_self _) (by omega) (by rfl) (by rfl) (by rfl)
    · skip
      refine z_aload_n mx mb dX5_ticksToStation_8 rfl 0 rfl ?_
      refine z_iconst mx mb dX5_ticksToStation_9 ?_
      refine z_callI0 (As := [.int (iZ 1)]) (rest := []) ⟨mx, mb, mml, mo, mts⟩ hK hA (fun sz => c_X5_fails l D sz y a f sv ai tx sm ln th hh 1 ) (cwV 1 mts gX5_ticksToStation_X5_fails rfl rfl rfl (by decide +kernel) ⟨Nat.le_of_ble_eq_true rfl, Nat.le_of_ble_eq_true rfl⟩) 0 wM_0 rfl rfl rfl rfl (Nat.le_of_ble_eq_true rfl) ⟨Nat.zero_le _, Nat.zero_le _⟩ dX5_ticksToStation_10 (fun r10 u10 hu10 => ?_)
      subst hu10
      show Gz pp l ee ({ frames := 7, cells := 0, slots := 0, locals := 159 } : Room) ss mm args below meth cd 5 0 0 Q (Zw D vwCl (va_A wst sz) ss (wM y a f sv ai tx sm ln 1 hh)) 13 [(0, .ref (a 0)), (1, .int (iZ t))] [.int (iZ 0)]
      have hth : thOne t (f 2 - 1) = 1 := by unfold thOne; rw [if_neg (b2z_e c5)]
      rw [hQ]
      exact z_retI mx mb mr mlk hK ai (by rw [hth]; rfl) (by rw [hth]) dX5_ticksToStation_13
  subst hQ
  subst hw0
  exact hstart

set_option maxRecDepth 100000 in
set_option maxHeartbeats 4000000 in
theorem c_X5_ticksToValley (l : Launch) (D : va_G) (sz : Nat) (y : Nat → ClassId) (a : Nat → Nat) (f sv ai tx : Int → Int) (sm ln th hh : Int) (hI : Inv 100000 f) : Met l yX5_ticksToValley wsX5_ticksToValley ({ frames := 8, cells := 0, slots := 0, locals := 183 } : Room) (zPw D vwCl (zT y) (wM y a f sv ai tx sm ln th hh) sz [.ref (a 0)]) (va_Qi (fun (r : Int32) (_ : Int → Int) => r = iZ (toValley f 2000)) (zB D vwCl (zT y) (wM y a f sv ai tx sm ln th hh) sz (fun ai' : Int → Int => wM y a f sv ai' tx sm ln 0 hh)) (va_A (wM y a f sv ai tx sm ln th hh) sz)) 0 0 (va_A (wM y a f sv ai tx sm ln th hh) sz) := by
  refine z_headW (cc := cX5_ticksToValley) (maxL := 1) (ret := (some .int)) [(0, .ref (a 0))] rfl (Nat.le_of_ble_eq_true rfl) (by decide +kernel) rfl ?_
  intro pp ee ss mm below meth cd mx mb mr mml mo mts mlk hK hname hsz hA
  generalize ([.ref (a 0)] : List Value).toArray = args at mts ⊢
  obtain ⟨wst, hw0⟩ : ∃ wst, wst = wM y a f sv ai tx sm ln th hh := ⟨_, rfl⟩
  have hA : ∀ q, ss.heap.size ≤ q → va_A wst sz q := by rw [hw0]; exact hA
  obtain ⟨Q, hQ⟩ : ∃ Q, Q = MQ below (va_Qi (fun (r : Int32) (_ : Int → Int) => r = iZ (toValley f 2000)) (zB D vwCl (zT y) wst sz (fun ai' : Int → Int => wM y a f sv ai' tx sm ln 0 hh)) (va_A wst sz)) args ss 0 0 (va_A wst sz) := ⟨_, rfl⟩
  have hstart : Gz pp l ee ({ frames := 8, cells := 0, slots := 0, locals := 183 } : Room) ss mm args below meth cd 1 0 0 Q (Zw D vwCl (va_A wst sz) ss (wM y a f sv ai tx sm ln th hh)) 0 [(0, .ref (a 0))] [] := by
    refine z_aload_n mx mb dX5_ticksToValley_0 rfl 0 rfl ?_
    refine z_aload_n mx mb dX5_ticksToValley_1 rfl 0 rfl ?_
    refine z_sipush mx mb dX5_ticksToValley_2 (by decide +kernel) ?_
    refine z_callI0 (As := [.int (iZ 2000)]) (rest := [.ref (a 0)]) ⟨mx, mb, mml, mo, mts⟩ hK hA (fun sz => c_X5_toValley l D sz y a f sv ai tx sm ln th hh 2000 (by omega) (Inv_le hI (by omega))) (cwV 1 mts gX5_ticksToValley_X5_toValley rfl rfl rfl (by decide +kernel) ⟨Nat.le_of_ble_eq_true rfl, Nat.le_of_ble_eq_true rfl⟩) 0 wM_0 rfl rfl rfl rfl (Nat.le_of_ble_eq_true rfl) ⟨Nat.zero_le _, Nat.zero_le _⟩ dX5_ticksToValley_5 (fun r5 u5 hu5 => ?_)
    subst hu5
    show Gz pp l ee ({ frames := 8, cells := 0, slots := 0, locals := 183 } : Room) ss mm args below meth cd 1 0 0 Q (Zw D vwCl (va_A wst sz) ss (wM y a f sv u5 tx sm ln th hh)) 8 [(0, .ref (a 0))] [.int (iZ (toValley f 2000)), .ref (a 0)]
    refine z_callI0 (As := [.int (iZ (toValley f 2000))]) (rest := []) ⟨mx, mb, mml, mo, mts⟩ hK hA (fun sz => c_X5_tells l D sz y a f sv u5 tx sm ln th hh (toValley f 2000) ) (cwV 1 mts gX5_ticksToValley_X5_tells rfl rfl rfl (by decide +kernel) ⟨Nat.le_of_ble_eq_true rfl, Nat.le_of_ble_eq_true rfl⟩) 0 wM_0 rfl rfl rfl rfl (Nat.le_of_ble_eq_true rfl) ⟨Nat.zero_le _, Nat.zero_le _⟩ dX5_ticksToValley_8 (fun r8 u8 hu8 => ?_)
    subst hu8
    show Gz pp l ee ({ frames := 8, cells := 0, slots := 0, locals := 183 } : Room) ss mm args below meth cd 1 0 0 Q (Zw D vwCl (va_A wst sz) ss (wM y a f sv u5 tx sm ln 0 hh)) 11 [(0, .ref (a 0))] [.int (iZ (toValley f 2000))]
    rw [hQ]
    exact z_retI mx mb mr mlk hK u5 (by rfl) rfl dX5_ticksToValley_11
  subst hQ
  subst hw0
  exact hstart

theorem in_X5_dispatchesWith_X5 : ∀ w ∈ wsX50, w ∈ wsX5_dispatchesWith := by decide +kernel
set_option maxRecDepth 100000 in
set_option maxHeartbeats 4000000 in
theorem c_X5_dispatchesWith (l : Launch) (D : va_G) (sz : Nat) (y : Nat → ClassId) (a : Nat → Nat) (f sv ai tx : Int → Int) (sm ln th hh : Int) (n : Int) (hn : -2147483648 ≤ n ∧ n ≤ 2147483647) (hI : Inv 100000 f) : Met l yX5_dispatchesWith wsX5_dispatchesWith ({ frames := 7, cells := 0, slots := 0, locals := 159 } : Room) (zPw D vwCl (zT y) (wM y a f sv ai tx sm ln th hh) sz [.ref (a 0), .int (iZ n)]) (va_Qi (fun (r : Int32) (_ : Int → Int) => r = iZ (if thOne n 500 = 0 then dispWith f n else 0)) (zB D vwCl (zT y) (wM y a f sv ai tx sm ln th hh) sz (fun ai' : Int → Int => wM y a f sv ai' tx sm ln (thOne n 500) hh)) (va_A (wM y a f sv ai tx sm ln th hh) sz)) 0 0 (va_A (wM y a f sv ai tx sm ln th hh) sz) := by
  refine z_headW (cc := cX5_dispatchesWith) (maxL := 4) (ret := (some .int)) [(0, .ref (a 0)), (1, .int (iZ n))] rfl (Nat.le_of_ble_eq_true rfl) (by decide +kernel) rfl ?_
  intro pp ee ss mm below meth cd mx mb mr mml mo mts mlk hK hname hsz hA
  generalize ([.ref (a 0), .int (iZ n)] : List Value).toArray = args at mts ⊢
  obtain ⟨wst, hw0⟩ : ∃ wst, wst = wM y a f sv ai tx sm ln th hh := ⟨_, rfl⟩
  have hA : ∀ q, ss.heap.size ≤ q → va_A wst sz q := by rw [hw0]; exact hA
  obtain ⟨Q, hQ⟩ : ∃ Q, Q = MQ below (va_Qi (fun (r : Int32) (_ : Int → Int) => r = iZ (if thOne n 500 = 0 then dispWith f n else 0)) (zB D vwCl (zT y) wst sz (fun ai' : Int → Int => wM y a f sv ai' tx sm ln (thOne n 500) hh)) (va_A wst sz)) args ss 0 0 (va_A wst sz) := ⟨_, rfl⟩
  have hstart : Gz pp l ee ({ frames := 7, cells := 0, slots := 0, locals := 159 } : Room) ss mm args below meth cd 4 0 0 Q (Zw D vwCl (va_A wst sz) ss (wM y a f sv ai tx sm ln th hh)) 0 [(0, .ref (a 0)), (1, .int (iZ n))] [] := by
    have hX : InvX f := ⟨_, hI, by omega⟩
    have hJ := hX.J
    obtain ⟨hW, hN, hT⟩ := hJ.f
    obtain ⟨w0, w1, w2, w3, w4, w5, w6⟩ := id hW
    obtain ⟨n3, n4, n5, n6, n7, n8, n9, n10⟩ := id hN
    refine z_iload_n mx mb dX5_dispatchesWith_0 rfl 1 rfl ?_
    refine z_iconst mx mb dX5_dispatchesWith_1 ?_
    refine z_sipush mx mb dX5_dispatchesWith_2 (by decide +kernel) ?_
    refine z_callPS (As := [.int (iZ n), .int (iZ 0), .int (iZ 500)]) (rest := []) ⟨mx, mb, mml, mo, mts⟩ hK zgw (c_X5_in l D y n 0 500 (by omega) (by omega) (by omega)) (cwS 3 mts gX5_dispatchesWith_X5_in rfl rfl rfl (by decide +kernel) ⟨Nat.le_of_ble_eq_true rfl, Nat.le_of_ble_eq_true rfl⟩) (fun _ h => nomatch h) rfl rfl (Nat.le_of_ble_eq_true rfl) ⟨Nat.zero_le _, Nat.zero_le _⟩ dX5_dispatchesWith_5 ?_
    refine z_if_ne (tgt := 17) mx mb (b2z_rng _) dX5_dispatchesWith_8 (by decide) (fun c8 => ?_) (fun c8 => ?_)
    · skip
      have hb := b2z_ne c8
      have h6 : Inv 100000 (zu f 6 n) := Inv_zu6 hI hb
      refine z_aload_n mx mb dX5_dispatchesWith_17 rfl 0 rfl ?_
      refine z_callV0 (As := []) (rest := []) ⟨mx, mb, mml, mo, mts⟩ hK hA (fun sz => c_X5_laysAside l D sz y a f sv ai tx sm ln th hh  ) (cwV 0 mts gX5_dispatchesWith_X5_laysAside rfl rfl rfl (by decide +kernel) ⟨Nat.le_of_ble_eq_true rfl, Nat.le_of_ble_eq_true rfl⟩) 0 wM_0 rfl rfl rfl rfl (Nat.le_of_ble_eq_true rfl) ⟨Nat.zero_le _, Nat.zero_le _⟩ dX5_dispatchesWith_18 (fun u18 hu18 => ?_)
      show Gz pp l ee ({ frames := 7, cells := 0, slots := 0, locals := 159 } : Room) ss mm args below meth cd 4 0 0 Q (Zw D vwCl (va_A wst sz) ss (wM y a f sv (cpN ai f 171) tx sm ln th hh)) 21 [(0, .ref (a 0)), (1, .int (iZ n))] []
      refine z_aload_n mx mb dX5_dispatchesWith_21 rfl 0 rfl ?_
      refine z_get (C := RX5) (T := TX5) (N := 8) mx mb mts (in_X5_dispatchesWith_X5) mo hK zgw 0 wM_0 rfl 0 (by decide) (mts _ (List.mem_of_getElem? (i := 1) rfl)) (fun _ h9 => h9) rfl dX5_dispatchesWith_22 ?_
      refine z_bipush mx mb dX5_dispatchesWith_25 (by decide +kernel) ?_
      refine z_iald mx mb hK zgw 1 0 wM_1 rfl (by decide) (by omega) dX5_dispatchesWith_27 ?_
      refine z_istore_n mx mb dX5_dispatchesWith_28 rfl (by decide) [(2, .int (iZ (f 8))), (0, .ref (a 0)), (1, .int (iZ n))] rfl ?_
      refine z_aload_n mx mb dX5_dispatchesWith_29 rfl 1 rfl ?_
      refine z_get (C := RX5) (T := TX5) (N := 8) mx mb mts (in_X5_dispatchesWith_X5) mo hK zgw 0 wM_0 rfl 0 (by decide) (mts _ (List.mem_of_getElem? (i := 1) rfl)) (fun _ h9 => h9) rfl dX5_dispatchesWith_30 ?_
      refine z_bipush mx mb dX5_dispatchesWith_33 (by decide +kernel) ?_
      refine z_iload_n mx mb dX5_dispatchesWith_35 rfl 2 rfl ?_
      refine z_iast mx mb hK 1 0 wM_1 rfl (by decide) (by omega) dX5_dispatchesWith_36 (wM y a (zu f 6 n) sv (cpN ai f 171) tx sm ln th hh) wM_s1 ?_
      refine z_iconst mx mb dX5_dispatchesWith_37 ?_
      refine z_istore_n mx mb dX5_dispatchesWith_38 rfl (by decide) [(3, .int (iZ 0)), (2, .int (iZ (f 8))), (0, .ref (a 0)), (1, .int (iZ n))] rfl ?_
      have lp39 : ∀ (nn : Nat) (i : Nat) (x3 : Int) (g : Int → Int), 1000 - i < nn → ((i : Int) ≤ 1000) → (x3 = (i : Int)) → (g = ticks (zu f 6 n) i) → Gz pp l ee ({ frames := 7, cells := 0, slots := 0, locals := 159 } : Room) ss mm args below meth cd 4 0 0 Q (Zw D vwCl (va_A wst sz) ss (wM y a g sv (cpN ai f 171) tx sm ln th hh)) 39 [(0, .ref (a 0)), (1, .int (iZ n)), (2, .int (iZ (f 8))), (3, .int (iZ x3))] [] := by
        intro nn
        induction nn with
        | zero => exact fun i x3 g hm => absurd hm (Nat.not_lt_zero _)
        | succ nn ih =>
          intro i x3 g hm hi e1 eg
          have tiX : InvX g := by rw [eg]; exact ticks_InvX (Inv_le h6 (by omega)) i (by omega)
          refine z_iload_n mx mb dX5_dispatchesWith_39 rfl 3 rfl ?_
          refine z_sipush mx mb dX5_dispatchesWith_40 (by decide +kernel) ?_
          refine z_icmp_ge (tgt := 56) mx mb (by omega) (by omega) dX5_dispatchesWith_43 (by decide) (fun c43 => ?_) (fun c43 => ?_)
          · skip
            have hi5 : i = 1000 := by omega
            refine z_aload_n mx mb dX5_dispatchesWith_56 rfl 0 rfl ?_
            refine z_get (C := RX5) (T := TX5) (N := 8) mx mb mts (in_X5_dispatchesWith_X5) mo hK zgw 0 wM_0 rfl 0 (by decide) (mts _ (List.mem_of_getElem? (i := 1) rfl)) (fun _ h9 => h9) rfl dX5_dispatchesWith_57 ?_
            refine z_bipush mx mb dX5_dispatchesWith_60 (by decide +kernel) ?_
            refine z_iald mx mb hK zgw 1 0 wM_1 rfl (by decide) (by omega) dX5_dispatchesWith_62 ?_
            refine z_iload_n mx mb dX5_dispatchesWith_63 rfl 2 rfl ?_
            refine z_isub mx mb dX5_dispatchesWith_64 ?_
            refine z_istore_n mx mb dX5_dispatchesWith_65 rfl (by decide) [(3, .int (iZ ((g 8) - (f 8)))), (0, .ref (a 0)), (1, .int (iZ n)), (2, .int (iZ (f 8)))] rfl ?_
            refine z_aload_n mx mb dX5_dispatchesWith_66 rfl 1 rfl ?_
            refine z_callV0 (As := []) (rest := []) ⟨mx, mb, mml, mo, mts⟩ hK hA (fun sz => c_X5_takesBack l D sz y a g sv (cpN ai f 171) tx sm ln th hh  ) (cwV 0 mts gX5_dispatchesWith_X5_takesBack rfl rfl rfl (by decide +kernel) ⟨Nat.le_of_ble_eq_true rfl, Nat.le_of_ble_eq_true rfl⟩) 0 wM_0 rfl rfl rfl rfl (Nat.le_of_ble_eq_true rfl) ⟨Nat.zero_le _, Nat.zero_le _⟩ dX5_dispatchesWith_67 (fun u67 hu67 => ?_)
            show Gz pp l ee ({ frames := 7, cells := 0, slots := 0, locals := 159 } : Room) ss mm args below meth cd 4 0 0 Q (Zw D vwCl (va_A wst sz) ss (wM y a (cpN g (cpN ai f 171) 171) sv (cpN ai f 171) tx sm ln th hh)) 70 [(3, .int (iZ ((g 8) - (f 8)))), (0, .ref (a 0)), (1, .int (iZ n)), (2, .int (iZ (f 8)))] []
            refine z_I (fun H locs q => wM_ext (g := f) (fun i i0 i1 => by rw [cpN_at _ _ _ i0, if_pos (by omega), cpN_at _ _ _ i0, if_pos (by omega)]) H locs q) ?_
            refine z_aload_n mx mb dX5_dispatchesWith_70 rfl 1 rfl ?_
            refine z_iload_n mx mb dX5_dispatchesWith_71 rfl 0 rfl ?_
            refine z_callI0 (As := [.int (iZ ((g 8) - (f 8)))]) (rest := []) ⟨mx, mb, mml, mo, mts⟩ hK hA (fun sz => c_X5_tells l D sz y a f sv (cpN ai f 171) tx sm ln th hh ((g 8) - (f 8)) ) (cwV 1 mts gX5_dispatchesWith_X5_tells rfl rfl rfl (by decide +kernel) ⟨Nat.le_of_ble_eq_true rfl, Nat.le_of_ble_eq_true rfl⟩) 0 wM_0 rfl rfl rfl rfl (Nat.le_of_ble_eq_true rfl) ⟨Nat.zero_le _, Nat.zero_le _⟩ dX5_dispatchesWith_72 (fun r72 u72 hu72 => ?_)
            subst hu72
            show Gz pp l ee ({ frames := 7, cells := 0, slots := 0, locals := 159 } : Room) ss mm args below meth cd 4 0 0 Q (Zw D vwCl (va_A wst sz) ss (wM y a f sv (cpN ai f 171) tx sm ln 0 hh)) 75 [(3, .int (iZ ((g 8) - (f 8)))), (0, .ref (a 0)), (1, .int (iZ n)), (2, .int (iZ (f 8)))] [.int (iZ ((g 8) - (f 8)))]
            have hth : thOne n 500 = 0 := by unfold thOne; rw [if_pos hb]
            rw [hQ]
            exact z_retI mx mb mr mlk hK (cpN ai f 171) (by rw [hth, if_pos rfl, eg, hi5]; rfl) (by rw [hth]) dX5_dispatchesWith_75
          · skip
            refine z_aload_n mx mb dX5_dispatchesWith_46 rfl 0 rfl ?_
            refine z_callV0 (As := []) (rest := []) ⟨mx, mb, mml, mo, mts⟩ hK hA (fun sz => c_X5_tick l D sz y a g sv (cpN ai f 171) tx sm ln th hh  (by assumption)) (cwV 0 mts gX5_dispatchesWith_X5_tick rfl rfl rfl (by decide +kernel) ⟨Nat.le_of_ble_eq_true rfl, Nat.le_of_ble_eq_true rfl⟩) 0 wM_0 rfl rfl rfl rfl (Nat.le_of_ble_eq_true rfl) ⟨Nat.zero_le _, Nat.zero_le _⟩ dX5_dispatchesWith_47 (fun u47 hu47 => ?_)
            show Gz pp l ee ({ frames := 7, cells := 0, slots := 0, locals := 159 } : Room) ss mm args below meth cd 4 0 0 Q (Zw D vwCl (va_A wst sz) ss (wM y a (tick g) sv (cpN ai f 171) tx sm ln th hh)) 50 [(0, .ref (a 0)), (1, .int (iZ n)), (2, .int (iZ (f 8))), (3, .int (iZ x3))] []
            refine z_iinc mx mb dX5_dispatchesWith_50 3 rfl (by decide) [(3, .int (iZ (x3 + 1))), (0, .ref (a 0)), (1, .int (iZ n)), (2, .int (iZ (f 8)))] rfl ?_
            refine z_goto (tgt := 39) mx mb dX5_dispatchesWith_53 (by decide) ?_
            refine z_lv [1, 2, 3, 0] rfl ?_
            exact ih (i + 1) _ _ (by omega) (by omega) (by omega) (by rw [eg]; rfl)
      refine z_lv [2, 3, 1, 0] rfl ?_
      exact lp39 _ 0 0 _ (Nat.lt_succ_self _) (by omega) (by rfl) (by rfl)
    · skip
      refine z_aload_n mx mb dX5_dispatchesWith_11 rfl 0 rfl ?_
      refine z_iconst mx mb dX5_dispatchesWith_12 ?_
      refine z_callI0 (As := [.int (iZ 1)]) (rest := []) ⟨mx, mb, mml, mo, mts⟩ hK hA (fun sz => c_X5_fails l D sz y a f sv ai tx sm ln th hh 1 ) (cwV 1 mts gX5_dispatchesWith_X5_fails rfl rfl rfl (by decide +kernel) ⟨Nat.le_of_ble_eq_true rfl, Nat.le_of_ble_eq_true rfl⟩) 0 wM_0 rfl rfl rfl rfl (Nat.le_of_ble_eq_true rfl) ⟨Nat.zero_le _, Nat.zero_le _⟩ dX5_dispatchesWith_13 (fun r13 u13 hu13 => ?_)
      subst hu13
      show Gz pp l ee ({ frames := 7, cells := 0, slots := 0, locals := 159 } : Room) ss mm args below meth cd 4 0 0 Q (Zw D vwCl (va_A wst sz) ss (wM y a f sv ai tx sm ln 1 hh)) 16 [(0, .ref (a 0)), (1, .int (iZ n))] [.int (iZ 0)]
      have hth : thOne n 500 = 1 := by unfold thOne; rw [if_neg (b2z_e c8)]
      rw [hQ]
      exact z_retI mx mb mr mlk hK ai (by rw [hth]; rfl) (by rw [hth]) dX5_dispatchesWith_16
  subst hQ
  subst hw0
  exact hstart

theorem in_X5_mostFriction_X5 : ∀ w ∈ wsX50, w ∈ wsX5_mostFriction := by decide +kernel
set_option maxRecDepth 100000 in
set_option maxHeartbeats 4000000 in
theorem c_X5_mostFriction (l : Launch) (D : va_G) (sz : Nat) (y : Nat → ClassId) (a : Nat → Nat) (f sv ai tx : Int → Int) (sm ln th hh : Int) (hI : Inv 100000 f) : Met l yX5_mostFriction wsX5_mostFriction ({ frames := 8, cells := 0, slots := 0, locals := 183 } : Room) (zPw D vwCl (zT y) (wM y a f sv ai tx sm ln th hh) sz [.ref (a 0)]) (va_Qi (fun (r : Int32) (_ : Int → Int) => r = iZ (mostF f 21)) (zB D vwCl (zT y) (wM y a f sv ai tx sm ln th hh) sz (fun ai' : Int → Int => wM y a f sv ai' tx sm ln 0 hh)) (va_A (wM y a f sv ai tx sm ln th hh) sz)) 0 0 (va_A (wM y a f sv ai tx sm ln th hh) sz) := by
  refine z_headW (cc := cX5_mostFriction) (maxL := 4) (ret := (some .int)) [(0, .ref (a 0))] rfl (Nat.le_of_ble_eq_true rfl) (by decide +kernel) rfl ?_
  intro pp ee ss mm below meth cd mx mb mr mml mo mts mlk hK hname hsz hA
  generalize ([.ref (a 0)] : List Value).toArray = args at mts ⊢
  obtain ⟨wst, hw0⟩ : ∃ wst, wst = wM y a f sv ai tx sm ln th hh := ⟨_, rfl⟩
  have hA : ∀ q, ss.heap.size ≤ q → va_A wst sz q := by rw [hw0]; exact hA
  obtain ⟨Q, hQ⟩ : ∃ Q, Q = MQ below (va_Qi (fun (r : Int32) (_ : Int → Int) => r = iZ (mostF f 21)) (zB D vwCl (zT y) wst sz (fun ai' : Int → Int => wM y a f sv ai' tx sm ln 0 hh)) (va_A wst sz)) args ss 0 0 (va_A wst sz) := ⟨_, rfl⟩
  have hstart : Gz pp l ee ({ frames := 8, cells := 0, slots := 0, locals := 183 } : Room) ss mm args below meth cd 4 0 0 Q (Zw D vwCl (va_A wst sz) ss (wM y a f sv ai tx sm ln th hh)) 0 [(0, .ref (a 0))] [] := by
    have hX : InvX f := ⟨_, hI, by omega⟩
    have hJ := hX.J
    obtain ⟨hW, hN, hT⟩ := hJ.f
    obtain ⟨w0, w1, w2, w3, w4, w5, w6⟩ := id hW
    obtain ⟨n3, n4, n5, n6, n7, n8, n9, n10⟩ := id hN
    refine z_aload_n mx mb dX5_mostFriction_0 rfl 0 rfl ?_
    refine z_get (C := RX5) (T := TX5) (N := 8) mx mb mts (in_X5_mostFriction_X5) mo hK zgw 0 wM_0 rfl 0 (by decide) (mts _ (List.mem_of_getElem? (i := 1) rfl)) (fun _ h9 => h9) rfl dX5_mostFriction_1 ?_
    refine z_iconst mx mb dX5_mostFriction_4 ?_
    refine z_iald mx mb hK zgw 1 0 wM_1 rfl (by decide) (by omega) dX5_mostFriction_5 ?_
    refine z_istore_n mx mb dX5_mostFriction_6 rfl (by decide) [(1, .int (iZ (f 4))), (0, .ref (a 0))] rfl ?_
    refine z_iconst mx mb dX5_mostFriction_7 ?_
    refine z_istore_n mx mb dX5_mostFriction_8 rfl (by decide) [(2, .int (iZ (-1))), (1, .int (iZ (f 4))), (0, .ref (a 0))] rfl ?_
    refine z_bipush mx mb dX5_mostFriction_9 (by decide +kernel) ?_
    refine z_istore_n mx mb dX5_mostFriction_11 rfl (by decide) [(3, .int (iZ 20)), (2, .int (iZ (-1))), (1, .int (iZ (f 4))), (0, .ref (a 0))] rfl ?_
    have lp12 : ∀ (nn : Nat) (i : Nat) (x2 x3 : Int) (g ai2 : Int → Int), 21 - i < nn → ((i : Int) ≤ 21) → (x2 = mostF f i) → (x3 = 20 - (i : Int)) → (∀ j : Int, j ≠ 4 → g j = f j) → (-1 ≤ x2 ∧ x2 ≤ 20) → Gz pp l ee ({ frames := 8, cells := 0, slots := 0, locals := 183 } : Room) ss mm args below meth cd 4 0 0 Q (Zw D vwCl (va_A wst sz) ss (wM y a g sv ai2 tx sm ln th hh)) 12 [(0, .ref (a 0)), (1, .int (iZ (f 4))), (2, .int (iZ x2)), (3, .int (iZ x3))] [] := by
      intro nn
      induction nn with
      | zero => exact fun i x2 x3 g ai2 hm => absurd hm (Nat.not_lt_zero _)
      | succ nn ih =>
        intro i x2 x3 g ai2 hm hi e2 e3 eg hr
        have ez : ∀ v : Int, zu g 4 v = zu f 4 v := fun v => by funext j; by_cases q : j = 4 <;> first | (rw [q, zu_s, zu_s]; done) | (rw [zu_n q, zu_n q, eg j q]; done)
        refine z_iload_n mx mb dX5_mostFriction_12 rfl 3 rfl ?_
        refine z_if_lt (tgt := 51) mx mb (by omega) dX5_mostFriction_13 (by decide) (fun c13 => ?_) (fun c13 => ?_)
        · skip
          have hm : mostF f 21 = x2 := by rw [e2, show i = 21 by omega]
          refine z_aload_n mx mb dX5_mostFriction_51 rfl 0 rfl ?_
          refine z_get (C := RX5) (T := TX5) (N := 8) mx mb mts (in_X5_mostFriction_X5) mo hK zgw 0 wM_0 rfl 0 (by decide) (mts _ (List.mem_of_getElem? (i := 1) rfl)) (fun _ h9 => h9) rfl dX5_mostFriction_52 ?_
          refine z_iconst mx mb dX5_mostFriction_55 ?_
          refine z_iload_n mx mb dX5_mostFriction_56 rfl 1 rfl ?_
          refine z_iast mx mb hK 1 0 wM_1 rfl (by decide) (by omega) dX5_mostFriction_57 (wM y a (zu g 4 (f 4)) sv ai2 tx sm ln th hh) wM_s1 ?_
          rw [show zu g 4 (f 4) = f from by rw [ez]; exact zu_id rfl]
          refine z_aload_n mx mb dX5_mostFriction_58 rfl 0 rfl ?_
          refine z_iload_n mx mb dX5_mostFriction_59 rfl 2 rfl ?_
          refine z_callI0 (As := [.int (iZ x2)]) (rest := []) ⟨mx, mb, mml, mo, mts⟩ hK hA (fun sz => c_X5_tells l D sz y a f sv ai2 tx sm ln th hh x2 ) (cwV 1 mts gX5_mostFriction_X5_tells rfl rfl rfl (by decide +kernel) ⟨Nat.le_of_ble_eq_true rfl, Nat.le_of_ble_eq_true rfl⟩) 0 wM_0 rfl rfl rfl rfl (Nat.le_of_ble_eq_true rfl) ⟨Nat.zero_le _, Nat.zero_le _⟩ dX5_mostFriction_60 (fun r60 u60 hu60 => ?_)
          subst hu60
          show Gz pp l ee ({ frames := 8, cells := 0, slots := 0, locals := 183 } : Room) ss mm args below meth cd 4 0 0 Q (Zw D vwCl (va_A wst sz) ss (wM y a f sv ai2 tx sm ln 0 hh)) 63 [(0, .ref (a 0)), (1, .int (iZ (f 4))), (2, .int (iZ x2)), (3, .int (iZ x3))] [.int (iZ x2)]
          rw [hQ]
          exact z_retI mx mb mr mlk hK ai2 (by rw [hm]) rfl dX5_mostFriction_63
        · skip
          have hf : Inv 100000 (zu g 4 x3) := by rw [ez]; exact Inv_zu4 hI (by omega)
          have tr : -1 ≤ toValley (zu g 4 x3) 500 ∧ toValley (zu g 4 x3) 500 ≤ 500 := toValley_rng (zu g 4 x3) 500
          refine z_iload_n mx mb dX5_mostFriction_16 rfl 2 rfl ?_
          refine z_iconst mx mb dX5_mostFriction_17 ?_
          refine z_icmp_ne (tgt := 51) mx mb (by omega) (by omega) dX5_mostFriction_18 (by decide) (fun c18 => ?_) (fun c18 => ?_)
          · skip
            have hm : mostF f 21 = x2 := by rw [mostF_keep (n := i) (by rw [← e2]; exact c18) (by omega), e2]
            refine z_aload_n mx mb dX5_mostFriction_51 rfl 0 rfl ?_
            refine z_get (C := RX5) (T := TX5) (N := 8) mx mb mts (in_X5_mostFriction_X5) mo hK zgw 0 wM_0 rfl 0 (by decide) (mts _ (List.mem_of_getElem? (i := 1) rfl)) (fun _ h9 => h9) rfl dX5_mostFriction_52 ?_
            refine z_iconst mx mb dX5_mostFriction_55 ?_
            refine z_iload_n mx mb dX5_mostFriction_56 rfl 1 rfl ?_
            refine z_iast mx mb hK 1 0 wM_1 rfl (by decide) (by omega) dX5_mostFriction_57 (wM y a (zu g 4 (f 4)) sv ai2 tx sm ln th hh) wM_s1 ?_
            rw [show zu g 4 (f 4) = f from by rw [ez]; exact zu_id rfl]
            refine z_aload_n mx mb dX5_mostFriction_58 rfl 0 rfl ?_
            refine z_iload_n mx mb dX5_mostFriction_59 rfl 2 rfl ?_
            refine z_callI0 (As := [.int (iZ x2)]) (rest := []) ⟨mx, mb, mml, mo, mts⟩ hK hA (fun sz => c_X5_tells l D sz y a f sv ai2 tx sm ln th hh x2 ) (cwV 1 mts gX5_mostFriction_X5_tells rfl rfl rfl (by decide +kernel) ⟨Nat.le_of_ble_eq_true rfl, Nat.le_of_ble_eq_true rfl⟩) 0 wM_0 rfl rfl rfl rfl (Nat.le_of_ble_eq_true rfl) ⟨Nat.zero_le _, Nat.zero_le _⟩ dX5_mostFriction_60 (fun r60 u60 hu60 => ?_)
            subst hu60
            show Gz pp l ee ({ frames := 8, cells := 0, slots := 0, locals := 183 } : Room) ss mm args below meth cd 4 0 0 Q (Zw D vwCl (va_A wst sz) ss (wM y a f sv ai2 tx sm ln 0 hh)) 63 [(0, .ref (a 0)), (1, .int (iZ (f 4))), (2, .int (iZ x2)), (3, .int (iZ x3))] [.int (iZ x2)]
            rw [hQ]
            exact z_retI mx mb mr mlk hK ai2 (by rw [hm]) rfl dX5_mostFriction_63
          · skip
            refine z_aload_n mx mb dX5_mostFriction_21 rfl 0 rfl ?_
            refine z_get (C := RX5) (T := TX5) (N := 8) mx mb mts (in_X5_mostFriction_X5) mo hK zgw 0 wM_0 rfl 0 (by decide) (mts _ (List.mem_of_getElem? (i := 1) rfl)) (fun _ h9 => h9) rfl dX5_mostFriction_22 ?_
            refine z_iconst mx mb dX5_mostFriction_25 ?_
            refine z_iload_n mx mb dX5_mostFriction_26 rfl 3 rfl ?_
            refine z_iast mx mb hK 1 0 wM_1 rfl (by decide) (by omega) dX5_mostFriction_27 (wM y a (zu g 4 x3) sv ai2 tx sm ln th hh) wM_s1 ?_
            refine z_aload_n mx mb dX5_mostFriction_28 rfl 0 rfl ?_
            refine z_sipush mx mb dX5_mostFriction_29 (by decide +kernel) ?_
            refine z_callI0 (As := [.int (iZ 500)]) (rest := []) ⟨mx, mb, mml, mo, mts⟩ hK hA (fun sz => c_X5_toValley l D sz y a (zu g 4 x3) sv ai2 tx sm ln th hh 500 (by omega) (Inv_le hf (by omega))) (cwV 1 mts gX5_mostFriction_X5_toValley rfl rfl rfl (by decide +kernel) ⟨Nat.le_of_ble_eq_true rfl, Nat.le_of_ble_eq_true rfl⟩) 0 wM_0 rfl rfl rfl rfl (Nat.le_of_ble_eq_true rfl) ⟨Nat.zero_le _, Nat.zero_le _⟩ dX5_mostFriction_32 (fun r32 u32 hu32 => ?_)
            subst hu32
            show Gz pp l ee ({ frames := 8, cells := 0, slots := 0, locals := 183 } : Room) ss mm args below meth cd 4 0 0 Q (Zw D vwCl (va_A wst sz) ss (wM y a (zu g 4 x3) sv u32 tx sm ln th hh)) 35 [(0, .ref (a 0)), (1, .int (iZ (f 4))), (2, .int (iZ x2)), (3, .int (iZ x3))] [.int (iZ (toValley (zu g 4 x3) 500))]
            refine z_iconst mx mb dX5_mostFriction_35 ?_
            refine z_icmp_ne (tgt := 43) mx mb (by omega) (by omega) dX5_mostFriction_36 (by decide) (fun c36 => ?_) (fun c36 => ?_)
            · skip
              refine z_iconst mx mb dX5_mostFriction_43 ?_
              refine z_istore_n mx mb dX5_mostFriction_44 rfl (by decide) [(2, .int (iZ (-1))), (0, .ref (a 0)), (1, .int (iZ (f 4))), (3, .int (iZ x3))] rfl ?_
              refine z_iinc mx mb dX5_mostFriction_45 3 rfl (by decide) [(3, .int (iZ (x3 + (-1)))), (2, .int (iZ (-1))), (0, .ref (a 0)), (1, .int (iZ (f 4)))] rfl ?_
              refine z_goto (tgt := 12) mx mb dX5_mostFriction_48 (by decide) ?_
              refine z_lv [2, 3, 1, 0] rfl ?_
              exact ih (i + 1) _ _ _ _ (by omega) (by omega) (by rw [mostF, ← e2, ← e3, if_pos c18, if_neg (by rw [← ez]; exact c36)]) (by omega) (by intro j hj; rw [zu_n hj]; exact eg j hj) (by omega)
            · skip
              refine z_iload_n mx mb dX5_mostFriction_39 rfl 3 rfl ?_
              refine z_goto (tgt := 44) mx mb dX5_mostFriction_40 (by decide) ?_
              refine z_istore_n mx mb dX5_mostFriction_44 rfl (by decide) [(2, .int (iZ x3)), (0, .ref (a 0)), (1, .int (iZ (f 4))), (3, .int (iZ x3))] rfl ?_
              refine z_iinc mx mb dX5_mostFriction_45 3 rfl (by decide) [(3, .int (iZ (x3 + (-1)))), (2, .int (iZ x3)), (0, .ref (a 0)), (1, .int (iZ (f 4)))] rfl ?_
              refine z_goto (tgt := 12) mx mb dX5_mostFriction_48 (by decide) ?_
              refine z_lv [2, 3, 1, 0] rfl ?_
              exact ih (i + 1) _ _ _ _ (by omega) (by omega) (by rw [mostF, ← e2, ← e3, if_pos c18, if_pos (by rw [← ez]; exact c36)]) (by omega) (by intro j hj; rw [zu_n hj]; exact eg j hj) (by omega)
    refine z_lv [3, 2, 1, 0] rfl ?_
    exact lp12 _ 0 (-1) 20 f ai (Nat.lt_succ_self _) (by omega) (by rfl) (by rfl) (by intro _ _; rfl) (by omega)
  subst hQ
  subst hw0
  exact hstart

set_option maxRecDepth 100000 in
set_option maxHeartbeats 4000000 in
theorem c_X5_leastSquare (l : Launch) (D : va_G) (sz : Nat) (y : Nat → ClassId) (a : Nat → Nat) (f sv ai tx : Int → Int) (sm ln th hh : Int) (c : Int) (hc : -2147483648 ≤ c ∧ c ≤ 2147483647) (hI : Inv 100000 f) : Met l yX5_leastSquare wsX5_leastSquare ({ frames := 2, cells := 0, slots := 0, locals := 50 } : Room) (zPw D vwCl (zT y) (wM y a f sv ai tx sm ln th hh) sz [.ref (a 0), .int (iZ c)]) (va_Qi (fun (r : Int32) (_ : Unit) => r = iZ (if thOne c (f 0 - 1) = 0 then leastS f c else 0)) (zB D vwCl (zT y) (wM y a f sv ai tx sm ln th hh) sz (fun _ : Unit => wM y a f sv ai tx sm ln (thOne c (f 0 - 1)) hh)) (va_A (wM y a f sv ai tx sm ln th hh) sz)) 0 0 (va_A (wM y a f sv ai tx sm ln th hh) sz) := by
  refine z_headW (cc := cX5_leastSquare) (maxL := 5) (ret := (some .int)) [(0, .ref (a 0)), (1, .int (iZ c))] rfl (Nat.le_of_ble_eq_true rfl) (by decide +kernel) rfl ?_
  intro pp ee ss mm below meth cd mx mb mr mml mo mts mlk hK hname hsz hA
  generalize ([.ref (a 0), .int (iZ c)] : List Value).toArray = args at mts ⊢
  obtain ⟨wst, hw0⟩ : ∃ wst, wst = wM y a f sv ai tx sm ln th hh := ⟨_, rfl⟩
  have hA : ∀ q, ss.heap.size ≤ q → va_A wst sz q := by rw [hw0]; exact hA
  obtain ⟨Q, hQ⟩ : ∃ Q, Q = MQ below (va_Qi (fun (r : Int32) (_ : Unit) => r = iZ (if thOne c (f 0 - 1) = 0 then leastS f c else 0)) (zB D vwCl (zT y) wst sz (fun _ : Unit => wM y a f sv ai tx sm ln (thOne c (f 0 - 1)) hh)) (va_A wst sz)) args ss 0 0 (va_A wst sz) := ⟨_, rfl⟩
  have hstart : Gz pp l ee ({ frames := 2, cells := 0, slots := 0, locals := 50 } : Room) ss mm args below meth cd 5 0 0 Q (Zw D vwCl (va_A wst sz) ss (wM y a f sv ai tx sm ln th hh)) 0 [(0, .ref (a 0)), (1, .int (iZ c))] [] := by
    have hX : InvX f := ⟨_, hI, by omega⟩
    have hJ := hX.J
    obtain ⟨hW, hN, hT⟩ := hJ.f
    obtain ⟨w0, w1, w2, w3, w4, w5, w6⟩ := id hW
    obtain ⟨n3, n4, n5, n6, n7, n8, n9, n10⟩ := id hN
    refine z_aload_n mx mb dX5_leastSquare_0 rfl 0 rfl ?_
    refine z_iload_n mx mb dX5_leastSquare_1 rfl 1 rfl ?_
    refine z_callP (As := [.int (iZ c)]) (rest := []) ⟨mx, mb, mml, mo, mts⟩ hK zgw (c_X5_isCell l D y a f sv ai tx sm ln th hh c (by omega) (by omega)) (cwV 1 mts gX5_leastSquare_X5_isCell rfl rfl rfl (by decide +kernel) ⟨Nat.le_of_ble_eq_true rfl, Nat.le_of_ble_eq_true rfl⟩) (fun _ h => h) 0 wM_0 rfl rfl rfl rfl (Nat.le_of_ble_eq_true rfl) ⟨Nat.zero_le _, Nat.zero_le _⟩ dX5_leastSquare_2 ?_
    refine z_if_ne (tgt := 14) mx mb (b2z_rng _) dX5_leastSquare_5 (by decide) (fun c5 => ?_) (fun c5 => ?_)
    · skip
      have hb := b2z_ne c5
      refine z_iconst mx mb dX5_leastSquare_14 ?_
      refine z_istore_n mx mb dX5_leastSquare_15 rfl (by decide) [(2, .int (iZ 0)), (0, .ref (a 0)), (1, .int (iZ c))] rfl ?_
      refine z_sipush mx mb dX5_leastSquare_16 (by decide +kernel) ?_
      refine z_istore_n mx mb dX5_leastSquare_19 rfl (by decide) [(3, .int (iZ 10000)), (2, .int (iZ 0)), (0, .ref (a 0)), (1, .int (iZ c))] rfl ?_
      have lp20 : ∀ (nn : Nat) (k : Nat) (x2 x3 : Int), (x3 - x2).toNat < nn → (0 ≤ x2 ∧ x2 ≤ x3 ∧ x3 ≤ 10000) → (x3 - x2 < 2 ^ k) → (bis f c k x2 x3 = bis f c 20 0 10000) → Gz pp l ee ({ frames := 2, cells := 0, slots := 0, locals := 50 } : Room) ss mm args below meth cd 5 0 0 Q (Zw D vwCl (va_A wst sz) ss (wM y a f sv ai tx sm ln th hh)) 20 [(0, .ref (a 0)), (1, .int (iZ c)), (2, .int (iZ x2)), (3, .int (iZ x3))] [] := by
        intro nn
        induction nn with
        | zero => exact fun k x2 x3 hm => absurd hm (Nat.not_lt_zero _)
        | succ nn ih =>
          intro k x2 x3 hm h1 hk he
          refine z_iload_n mx mb dX5_leastSquare_20 rfl 2 rfl ?_
          refine z_iload_n mx mb dX5_leastSquare_21 rfl 3 rfl ?_
          refine z_icmp_ge (tgt := 56) mx mb (by omega) (by omega) dX5_leastSquare_22 (by decide) (fun c22 => ?_) (fun c22 => ?_)
          · skip
            have hb5 : bis f c 20 0 10000 = x2 := by rw [← he]; cases k with
              | zero => rfl
              | succ k => rw [bis, if_neg (by omega)]
            refine z_aload_n mx mb dX5_leastSquare_56 rfl 0 rfl ?_
            refine z_iload_n mx mb dX5_leastSquare_57 rfl 2 rfl ?_
            refine z_sipush mx mb dX5_leastSquare_58 (by decide +kernel) ?_
            refine z_icmp_le (tgt := 68) mx mb (by omega) (by omega) dX5_leastSquare_61 (by decide) (fun c61 => ?_) (fun c61 => ?_)
            · skip
              refine z_iload_n mx mb dX5_leastSquare_68 rfl 2 rfl ?_
              refine z_callI0 (As := [.int (iZ x2)]) (rest := []) ⟨mx, mb, mml, mo, mts⟩ hK hA (fun sz => c_X5_tells l D sz y a f sv ai tx sm ln th hh x2 ) (cwV 1 mts gX5_leastSquare_X5_tells rfl rfl rfl (by decide +kernel) ⟨Nat.le_of_ble_eq_true rfl, Nat.le_of_ble_eq_true rfl⟩) 0 wM_0 rfl rfl rfl rfl (Nat.le_of_ble_eq_true rfl) ⟨Nat.zero_le _, Nat.zero_le _⟩ dX5_leastSquare_69 (fun r69 u69 hu69 => ?_)
              subst hu69
              show Gz pp l ee ({ frames := 2, cells := 0, slots := 0, locals := 50 } : Room) ss mm args below meth cd 5 0 0 Q (Zw D vwCl (va_A wst sz) ss (wM y a f sv ai tx sm ln 0 hh)) 72 [(0, .ref (a 0)), (1, .int (iZ c)), (2, .int (iZ x2)), (3, .int (iZ x3))] [.int (iZ x2)]
              have hth : thOne c (f 0 - 1) = 0 := by unfold thOne; rw [if_pos hb]
              rw [hQ]
              exact z_retI mx mb mr mlk hK () (by rw [hth, if_pos rfl]; unfold leastS; rw [hb5, if_neg (by omega)]) (by rw [hth]) dX5_leastSquare_72
            · skip
              refine z_iconst mx mb dX5_leastSquare_64 ?_
              refine z_goto (tgt := 69) mx mb dX5_leastSquare_65 (by decide) ?_
              refine z_callI0 (As := [.int (iZ (-1))]) (rest := []) ⟨mx, mb, mml, mo, mts⟩ hK hA (fun sz => c_X5_tells l D sz y a f sv ai tx sm ln th hh (-1) ) (cwV 1 mts gX5_leastSquare_X5_tells rfl rfl rfl (by decide +kernel) ⟨Nat.le_of_ble_eq_true rfl, Nat.le_of_ble_eq_true rfl⟩) 0 wM_0 rfl rfl rfl rfl (Nat.le_of_ble_eq_true rfl) ⟨Nat.zero_le _, Nat.zero_le _⟩ dX5_leastSquare_69 (fun r69 u69 hu69 => ?_)
              subst hu69
              show Gz pp l ee ({ frames := 2, cells := 0, slots := 0, locals := 50 } : Room) ss mm args below meth cd 5 0 0 Q (Zw D vwCl (va_A wst sz) ss (wM y a f sv ai tx sm ln 0 hh)) 72 [(0, .ref (a 0)), (1, .int (iZ c)), (2, .int (iZ x2)), (3, .int (iZ x3))] [.int (iZ (-1))]
              have hth : thOne c (f 0 - 1) = 0 := by unfold thOne; rw [if_pos hb]
              rw [hQ]
              exact z_retI mx mb mr mlk hK () (by rw [hth, if_pos rfl]; unfold leastS; rw [hb5, if_pos c61]) (by rw [hth]) dX5_leastSquare_72
          · skip
            obtain ⟨k, rfl⟩ : ∃ j, k = j + 1 := ⟨k - 1, by cases k with
                | zero => exact absurd hk (by have : (2 : Int) ^ 0 = 1 := rfl; omega)
                | succ k => omega⟩
            rw [bis, if_pos c22] at he
            refine z_iload_n mx mb dX5_leastSquare_25 rfl 2 rfl ?_
            refine z_iload_n mx mb dX5_leastSquare_26 rfl 3 rfl ?_
            refine z_iadd mx mb dX5_leastSquare_27 ?_
            refine z_iconst mx mb dX5_leastSquare_28 ?_
            refine z_idiv mx mb (by omega) (by omega) dX5_leastSquare_29 ?_
            refine z_istore mx mb dX5_leastSquare_30 (by decide) [(4, .int (iZ ((x2 + x3) / 2))), (0, .ref (a 0)), (1, .int (iZ c)), (2, .int (iZ x2)), (3, .int (iZ x3))] rfl ?_
            refine z_aload_n mx mb dX5_leastSquare_32 rfl 1 rfl ?_
            refine z_iload_n mx mb dX5_leastSquare_33 rfl 2 rfl ?_
            refine z_iload mx mb dX5_leastSquare_34 0 rfl ?_
            refine z_callP (As := [.int (iZ c), .int (iZ ((x2 + x3) / 2))]) (rest := []) ⟨mx, mb, mml, mo, mts⟩ hK zgw (c_X5_comesBy l D y a f sv ai tx sm ln th hh c ((x2 + x3) / 2) (by omega) (by omega) (by omega) (by assumption)) (cwV 2 mts gX5_leastSquare_X5_comesBy rfl rfl rfl (by decide +kernel) ⟨Nat.le_of_ble_eq_true rfl, Nat.le_of_ble_eq_true rfl⟩) (fun _ h => h) 0 wM_0 rfl rfl rfl rfl (Nat.le_of_ble_eq_true rfl) ⟨Nat.zero_le _, Nat.zero_le _⟩ dX5_leastSquare_36 ?_
            refine z_if_eq (tgt := 48) mx mb (b2z_rng _) dX5_leastSquare_39 (by decide) (fun c39 => ?_) (fun c39 => ?_)
            · skip
              refine z_iload mx mb dX5_leastSquare_48 0 rfl ?_
              refine z_iconst mx mb dX5_leastSquare_50 ?_
              refine z_iadd mx mb dX5_leastSquare_51 ?_
              refine z_istore_n mx mb dX5_leastSquare_52 rfl (by decide) [(2, .int (iZ (((x2 + x3) / 2) + 1))), (4, .int (iZ ((x2 + x3) / 2))), (0, .ref (a 0)), (1, .int (iZ c)), (3, .int (iZ x3))] rfl ?_
              refine z_goto (tgt := 20) mx mb dX5_leastSquare_53 (by decide) ?_
              refine z_lv [2, 3, 0, 4] rfl ?_
              exact ih k _ _ (by omega) (by omega) (by rw [Int.pow_succ] at hk; omega) (by rw [if_neg (b2z_e c39)] at he; exact he)
            · skip
              refine z_iload mx mb dX5_leastSquare_42 0 rfl ?_
              refine z_istore_n mx mb dX5_leastSquare_44 rfl (by decide) [(3, .int (iZ ((x2 + x3) / 2))), (4, .int (iZ ((x2 + x3) / 2))), (0, .ref (a 0)), (1, .int (iZ c)), (2, .int (iZ x2))] rfl ?_
              refine z_goto (tgt := 53) mx mb dX5_leastSquare_45 (by decide) ?_
              refine z_goto (tgt := 20) mx mb dX5_leastSquare_53 (by decide) ?_
              refine z_lv [2, 3, 4, 0] rfl ?_
              exact ih k _ _ (by omega) (by omega) (by rw [Int.pow_succ] at hk; omega) (by rw [if_pos (b2z_ne c39)] at he; exact he)
      refine z_lv [2, 3, 1, 0] rfl ?_
      exact lp20 _ 20 0 10000 (Nat.lt_succ_self _) (by omega) (by omega) (by rfl)
    · skip
      refine z_aload_n mx mb dX5_leastSquare_8 rfl 0 rfl ?_
      refine z_iconst mx mb dX5_leastSquare_9 ?_
      refine z_callI0 (As := [.int (iZ 1)]) (rest := []) ⟨mx, mb, mml, mo, mts⟩ hK hA (fun sz => c_X5_fails l D sz y a f sv ai tx sm ln th hh 1 ) (cwV 1 mts gX5_leastSquare_X5_fails rfl rfl rfl (by decide +kernel) ⟨Nat.le_of_ble_eq_true rfl, Nat.le_of_ble_eq_true rfl⟩) 0 wM_0 rfl rfl rfl rfl (Nat.le_of_ble_eq_true rfl) ⟨Nat.zero_le _, Nat.zero_le _⟩ dX5_leastSquare_10 (fun r10 u10 hu10 => ?_)
      subst hu10
      show Gz pp l ee ({ frames := 2, cells := 0, slots := 0, locals := 50 } : Room) ss mm args below meth cd 5 0 0 Q (Zw D vwCl (va_A wst sz) ss (wM y a f sv ai tx sm ln 1 hh)) 13 [(0, .ref (a 0)), (1, .int (iZ c))] [.int (iZ 0)]
      have hth : thOne c (f 0 - 1) = 1 := by unfold thOne; rw [if_neg (b2z_e c5)]
      rw [hQ]
      exact z_retI mx mb mr mlk hK () (by rw [hth]; rfl) (by rw [hth]) dX5_leastSquare_13
  subst hQ
  subst hw0
  exact hstart

theorem in_X5_append_X5 : ∀ w ∈ wsX50, w ∈ wsX5_append := by decide +kernel
set_option maxRecDepth 100000 in
set_option maxHeartbeats 4000000 in
theorem c_X5_append (l : Launch) (D : va_G) (sz : Nat) (y : Nat → ClassId) (a : Nat → Nat) (f sv ai tx : Int → Int) (sm ln th hh : Int) (v : Int) (hv : -2147483648 ≤ v ∧ v ≤ 2147483647) (hl : 0 ≤ ln ∧ ln ≤ 90) : Met l yX5_append wsX5_append ({ frames := 1, cells := 0, slots := 0, locals := 22 } : Room) (zPw D vwCl (zT y) (wM y a f sv ai tx sm ln th hh) sz [.ref (a 0), .int (iZ v)]) (va_Qi (fun (r : Int32) (_ : Unit) => r = iZ (if thApp v ln = 0 then ln + 1 else 0)) (zB D vwCl (zT y) (wM y a f sv ai tx sm ln th hh) sz (fun _ : Unit => wM y a f sv ai (if thApp v ln = 0 then zu tx ln v else tx) sm (if thApp v ln = 0 then ln + 1 else ln) (thApp v ln) hh)) (va_A (wM y a f sv ai tx sm ln th hh) sz)) 0 0 (va_A (wM y a f sv ai tx sm ln th hh) sz) := by
  refine z_headW (cc := cX5_append) (maxL := 2) (ret := (some .int)) [(0, .ref (a 0)), (1, .int (iZ v))] rfl (Nat.le_of_ble_eq_true rfl) (by decide +kernel) rfl ?_
  intro pp ee ss mm below meth cd mx mb mr mml mo mts mlk hK hname hsz hA
  generalize ([.ref (a 0), .int (iZ v)] : List Value).toArray = args at mts ⊢
  obtain ⟨wst, hw0⟩ : ∃ wst, wst = wM y a f sv ai tx sm ln th hh := ⟨_, rfl⟩
  have hA : ∀ q, ss.heap.size ≤ q → va_A wst sz q := by rw [hw0]; exact hA
  obtain ⟨Q, hQ⟩ : ∃ Q, Q = MQ below (va_Qi (fun (r : Int32) (_ : Unit) => r = iZ (if thApp v ln = 0 then ln + 1 else 0)) (zB D vwCl (zT y) wst sz (fun _ : Unit => wM y a f sv ai (if thApp v ln = 0 then zu tx ln v else tx) sm (if thApp v ln = 0 then ln + 1 else ln) (thApp v ln) hh)) (va_A wst sz)) args ss 0 0 (va_A wst sz) := ⟨_, rfl⟩
  have hstart : Gz pp l ee ({ frames := 1, cells := 0, slots := 0, locals := 22 } : Room) ss mm args below meth cd 2 0 0 Q (Zw D vwCl (va_A wst sz) ss (wM y a f sv ai tx sm ln th hh)) 0 [(0, .ref (a 0)), (1, .int (iZ v))] [] := by
    refine z_iload_n mx mb dX5_append_0 rfl 1 rfl ?_
    refine z_iconst mx mb dX5_append_1 ?_
    refine z_bipush mx mb dX5_append_2 (by decide +kernel) ?_
    refine z_callPS (As := [.int (iZ v), .int (iZ 0), .int (iZ 127)]) (rest := []) ⟨mx, mb, mml, mo, mts⟩ hK zgw (c_X5_in l D y v 0 127 (by omega) (by omega) (by omega)) (cwS 3 mts gX5_append_X5_in rfl rfl rfl (by decide +kernel) ⟨Nat.le_of_ble_eq_true rfl, Nat.le_of_ble_eq_true rfl⟩) (fun _ h => nomatch h) rfl rfl (Nat.le_of_ble_eq_true rfl) ⟨Nat.zero_le _, Nat.zero_le _⟩ dX5_append_4 ?_
    refine z_if_ne (tgt := 16) mx mb (b2z_rng _) dX5_append_7 (by decide) (fun c7 => ?_) (fun c7 => ?_)
    · skip
      have hb := b2z_ne c7
      refine z_aload_n mx mb dX5_append_16 rfl 0 rfl ?_
      refine z_get (C := RX5) (T := TX5) (N := 8) mx mb mts (in_X5_append_X5) mo hK zgw 0 wM_0 rfl 5 (by decide) (mts _ (List.mem_of_getElem? (i := 1) rfl)) (fun _ h9 => h9) rfl dX5_append_17 ?_
      refine z_bipush mx mb dX5_append_20 (by decide +kernel) ?_
      refine z_icmp_ne (tgt := 31) mx mb (by omega) (by omega) dX5_append_22 (by decide) (fun c22 => ?_) (fun c22 => ?_)
      · skip
        refine z_aload_n mx mb dX5_append_31 rfl 0 rfl ?_
        refine z_get (C := RX5) (T := TX5) (N := 8) mx mb mts (in_X5_append_X5) mo hK zgw 0 wM_0 rfl 4 (by decide) (mts _ (List.mem_of_getElem? (i := 2) rfl)) (fun _ h9 => h9) rfl dX5_append_32 ?_
        refine z_aload_n mx mb dX5_append_35 rfl 0 rfl ?_
        refine z_get (C := RX5) (T := TX5) (N := 8) mx mb mts (in_X5_append_X5) mo hK zgw 0 wM_0 rfl 5 (by decide) (mts _ (List.mem_of_getElem? (i := 1) rfl)) (fun _ h9 => h9) rfl dX5_append_36 ?_
        refine z_iload_n mx mb dX5_append_39 rfl 1 rfl ?_
        refine z_iast mx mb hK 4 0 wM_4 rfl (by decide) (by omega) dX5_append_40 (wM y a f sv ai (zu tx ln v) sm ln th hh) wM_s4 ?_
        refine z_aload_n mx mb dX5_append_41 rfl 0 rfl ?_
        refine z_dup mx mb dX5_append_42 rfl ?_
        refine z_get (C := RX5) (T := TX5) (N := 8) mx mb mts (in_X5_append_X5) mo hK zgw 0 wM_0 rfl 5 (by decide) (mts _ (List.mem_of_getElem? (i := 1) rfl)) (fun _ h9 => h9) rfl dX5_append_43 ?_
        refine z_iconst mx mb dX5_append_46 ?_
        refine z_iadd mx mb dX5_append_47 ?_
        refine z_put (ty := .int) (C := RX5) (T := TX5) (N := 8) mx mb mts (in_X5_append_X5) tyX5_ok nmX5 mo hK 0 wM_0 rfl 5 (by decide) (mts _ (List.mem_of_getElem? (i := 1) rfl)) (fun _ h9 => h9) rfl (by decide +kernel) rfl rfl (Nat.le_of_ble_eq_true rfl) dX5_append_48 (wM y a f sv ai (zu tx ln v) sm (ln + 1) th hh) rfl ?_
        refine z_aload_n mx mb dX5_append_51 rfl 0 rfl ?_
        refine z_aload_n mx mb dX5_append_52 rfl 0 rfl ?_
        refine z_get (C := RX5) (T := TX5) (N := 8) mx mb mts (in_X5_append_X5) mo hK zgw 0 wM_0 rfl 5 (by decide) (mts _ (List.mem_of_getElem? (i := 1) rfl)) (fun _ h9 => h9) rfl dX5_append_53 ?_
        refine z_callI0 (As := [.int (iZ (ln + 1))]) (rest := []) ⟨mx, mb, mml, mo, mts⟩ hK hA (fun sz => c_X5_tells l D sz y a f sv ai (zu tx ln v) sm (ln + 1) th hh (ln + 1) ) (cwV 1 mts gX5_append_X5_tells rfl rfl rfl (by decide +kernel) ⟨Nat.le_of_ble_eq_true rfl, Nat.le_of_ble_eq_true rfl⟩) 0 wM_0 rfl rfl rfl rfl (Nat.le_of_ble_eq_true rfl) ⟨Nat.zero_le _, Nat.zero_le _⟩ dX5_append_56 (fun r56 u56 hu56 => ?_)
        subst hu56
        show Gz pp l ee ({ frames := 1, cells := 0, slots := 0, locals := 22 } : Room) ss mm args below meth cd 2 0 0 Q (Zw D vwCl (va_A wst sz) ss (wM y a f sv ai (zu tx ln v) sm (ln + 1) 0 hh)) 59 [(0, .ref (a 0)), (1, .int (iZ v))] [.int (iZ (ln + 1))]
        have hth : thApp v ln = 0 := by unfold thApp; rw [if_pos hb, if_neg c22]
        rw [hQ]
        exact z_retI mx mb mr mlk hK () (by rw [hth]; rfl) (by rw [hth]; rfl) dX5_append_59
      · skip
        refine z_aload_n mx mb dX5_append_25 rfl 0 rfl ?_
        refine z_iconst mx mb dX5_append_26 ?_
        refine z_callI0 (As := [.int (iZ 2)]) (rest := []) ⟨mx, mb, mml, mo, mts⟩ hK hA (fun sz => c_X5_fails l D sz y a f sv ai tx sm ln th hh 2 ) (cwV 1 mts gX5_append_X5_fails rfl rfl rfl (by decide +kernel) ⟨Nat.le_of_ble_eq_true rfl, Nat.le_of_ble_eq_true rfl⟩) 0 wM_0 rfl rfl rfl rfl (Nat.le_of_ble_eq_true rfl) ⟨Nat.zero_le _, Nat.zero_le _⟩ dX5_append_27 (fun r27 u27 hu27 => ?_)
        subst hu27
        show Gz pp l ee ({ frames := 1, cells := 0, slots := 0, locals := 22 } : Room) ss mm args below meth cd 2 0 0 Q (Zw D vwCl (va_A wst sz) ss (wM y a f sv ai tx sm ln 2 hh)) 30 [(0, .ref (a 0)), (1, .int (iZ v))] [.int (iZ 0)]
        have hth : thApp v ln = 2 := by unfold thApp; rw [if_pos hb, if_pos c22]
        rw [hQ]
        exact z_retI mx mb mr mlk hK () (by rw [hth]; rfl) (by rw [hth]; rfl) dX5_append_30
    · skip
      refine z_aload_n mx mb dX5_append_10 rfl 0 rfl ?_
      refine z_iconst mx mb dX5_append_11 ?_
      refine z_callI0 (As := [.int (iZ 1)]) (rest := []) ⟨mx, mb, mml, mo, mts⟩ hK hA (fun sz => c_X5_fails l D sz y a f sv ai tx sm ln th hh 1 ) (cwV 1 mts gX5_append_X5_fails rfl rfl rfl (by decide +kernel) ⟨Nat.le_of_ble_eq_true rfl, Nat.le_of_ble_eq_true rfl⟩) 0 wM_0 rfl rfl rfl rfl (Nat.le_of_ble_eq_true rfl) ⟨Nat.zero_le _, Nat.zero_le _⟩ dX5_append_12 (fun r12 u12 hu12 => ?_)
      subst hu12
      show Gz pp l ee ({ frames := 1, cells := 0, slots := 0, locals := 22 } : Room) ss mm args below meth cd 2 0 0 Q (Zw D vwCl (va_A wst sz) ss (wM y a f sv ai tx sm ln 1 hh)) 15 [(0, .ref (a 0)), (1, .int (iZ v))] [.int (iZ 0)]
      have hth : thApp v ln = 1 := by unfold thApp; rw [if_neg (b2z_e c7)]
      rw [hQ]
      exact z_retI mx mb mr mlk hK () (by rw [hth]; rfl) (by rw [hth]; rfl) dX5_append_15
  subst hQ
  subst hw0
  exact hstart

theorem in_X5_clearText_X5 : ∀ w ∈ wsX50, w ∈ wsX5_clearText := by decide +kernel
set_option maxRecDepth 100000 in
set_option maxHeartbeats 4000000 in
theorem c_X5_clearText (l : Launch) (D : va_G) (sz : Nat) (y : Nat → ClassId) (a : Nat → Nat) (f sv ai tx : Int → Int) (sm ln th hh : Int) (hl : 0 ≤ ln ∧ ln ≤ 90) : Met l yX5_clearText wsX5_clearText ({ frames := 1, cells := 0, slots := 0, locals := 21 } : Room) (zPw D vwCl (zT y) (wM y a f sv ai tx sm ln th hh) sz [.ref (a 0)]) (va_Qi (fun (r : Int32) (_ : Unit) => r = iZ ln) (zB D vwCl (zT y) (wM y a f sv ai tx sm ln th hh) sz (fun _ : Unit => wM y a f sv ai tx sm 0 0 hh)) (va_A (wM y a f sv ai tx sm ln th hh) sz)) 0 0 (va_A (wM y a f sv ai tx sm ln th hh) sz) := by
  refine z_headW (cc := cX5_clearText) (maxL := 2) (ret := (some .int)) [(0, .ref (a 0))] rfl (Nat.le_of_ble_eq_true rfl) (by decide +kernel) rfl ?_
  intro pp ee ss mm below meth cd mx mb mr mml mo mts mlk hK hname hsz hA
  generalize ([.ref (a 0)] : List Value).toArray = args at mts ⊢
  obtain ⟨wst, hw0⟩ : ∃ wst, wst = wM y a f sv ai tx sm ln th hh := ⟨_, rfl⟩
  have hA : ∀ q, ss.heap.size ≤ q → va_A wst sz q := by rw [hw0]; exact hA
  obtain ⟨Q, hQ⟩ : ∃ Q, Q = MQ below (va_Qi (fun (r : Int32) (_ : Unit) => r = iZ ln) (zB D vwCl (zT y) wst sz (fun _ : Unit => wM y a f sv ai tx sm 0 0 hh)) (va_A wst sz)) args ss 0 0 (va_A wst sz) := ⟨_, rfl⟩
  have hstart : Gz pp l ee ({ frames := 1, cells := 0, slots := 0, locals := 21 } : Room) ss mm args below meth cd 2 0 0 Q (Zw D vwCl (va_A wst sz) ss (wM y a f sv ai tx sm ln th hh)) 0 [(0, .ref (a 0))] [] := by
    refine z_aload_n mx mb dX5_clearText_0 rfl 0 rfl ?_
    refine z_get (C := RX5) (T := TX5) (N := 8) mx mb mts (in_X5_clearText_X5) mo hK zgw 0 wM_0 rfl 5 (by decide) (mts _ (List.mem_of_getElem? (i := 1) rfl)) (fun _ h9 => h9) rfl dX5_clearText_1 ?_
    refine z_istore_n mx mb dX5_clearText_4 rfl (by decide) [(1, .int (iZ ln)), (0, .ref (a 0))] rfl ?_
    refine z_aload_n mx mb dX5_clearText_5 rfl 1 rfl ?_
    refine z_iconst mx mb dX5_clearText_6 ?_
    refine z_put (ty := .int) (C := RX5) (T := TX5) (N := 8) mx mb mts (in_X5_clearText_X5) tyX5_ok nmX5 mo hK 0 wM_0 rfl 5 (by decide) (mts _ (List.mem_of_getElem? (i := 1) rfl)) (fun _ h9 => h9) rfl (by decide +kernel) rfl rfl (Nat.le_of_ble_eq_true rfl) dX5_clearText_7 (wM y a f sv ai tx sm 0 th hh) rfl ?_
    refine z_aload_n mx mb dX5_clearText_10 rfl 1 rfl ?_
    refine z_iload_n mx mb dX5_clearText_11 rfl 0 rfl ?_
    refine z_callI0 (As := [.int (iZ ln)]) (rest := []) ⟨mx, mb, mml, mo, mts⟩ hK hA (fun sz => c_X5_tells l D sz y a f sv ai tx sm 0 th hh ln ) (cwV 1 mts gX5_clearText_X5_tells rfl rfl rfl (by decide +kernel) ⟨Nat.le_of_ble_eq_true rfl, Nat.le_of_ble_eq_true rfl⟩) 0 wM_0 rfl rfl rfl rfl (Nat.le_of_ble_eq_true rfl) ⟨Nat.zero_le _, Nat.zero_le _⟩ dX5_clearText_12 (fun r12 u12 hu12 => ?_)
    subst hu12
    show Gz pp l ee ({ frames := 1, cells := 0, slots := 0, locals := 21 } : Room) ss mm args below meth cd 2 0 0 Q (Zw D vwCl (va_A wst sz) ss (wM y a f sv ai tx sm 0 0 hh)) 15 [(1, .int (iZ ln)), (0, .ref (a 0))] [.int (iZ ln)]
    rw [hQ]
    exact z_retI mx mb mr mlk hK () (by rfl) rfl dX5_clearText_15
  subst hQ
  subst hw0
  exact hstart

theorem in_X5_parse_X5 : ∀ w ∈ wsX50, w ∈ wsX5_parse := by decide +kernel
set_option maxRecDepth 100000 in
set_option maxHeartbeats 4000000 in
theorem c_X5_parse (l : Launch) (D : va_G) (sz : Nat) (y : Nat → ClassId) (a : Nat → Nat) (f sv ai tx : Int → Int) (sm ln th hh : Int) (hI : Inv 100000 f) (hs : 0 ≤ sm ∧ sm ≤ 4) (hl : 0 ≤ ln ∧ ln ≤ 90) (htx : ∀ k : Int, 0 ≤ k → k < 90 → 0 ≤ tx k ∧ tx k ≤ 127) : Met l yX5_parse wsX5_parse ({ frames := 2, cells := 0, slots := 0, locals := 46 } : Room) (zPw D vwCl (zT y) (wM y a f sv ai tx sm ln th hh) sz [.ref (a 0)]) (va_Qi (fun (r : Int32) (_ : Unit) => r = iZ (if fault tx ln = -1 then ln / 2 else -10 - fault tx ln)) (zB D vwCl (zT y) (wM y a f sv ai tx sm ln th hh) sz (fun _ : Unit => wM y a (if fault tx ln = -1 then parsed f tx (ln / 2).toNat else f) (if fault tx ln = -1 then svS sv f sm else sv) ai tx (if fault tx ln = -1 then smS sm else sm) ln 0 hh)) (va_A (wM y a f sv ai tx sm ln th hh) sz)) 0 0 (va_A (wM y a f sv ai tx sm ln th hh) sz) := by
  refine z_headW (cc := cX5_parse) (maxL := 3) (ret := (some .int)) [(0, .ref (a 0))] rfl (Nat.le_of_ble_eq_true rfl) (by decide +kernel) rfl ?_
  intro pp ee ss mm below meth cd mx mb mr mml mo mts mlk hK hname hsz hA
  generalize ([.ref (a 0)] : List Value).toArray = args at mts ⊢
  obtain ⟨wst, hw0⟩ : ∃ wst, wst = wM y a f sv ai tx sm ln th hh := ⟨_, rfl⟩
  have hA : ∀ q, ss.heap.size ≤ q → va_A wst sz q := by rw [hw0]; exact hA
  obtain ⟨Q, hQ⟩ : ∃ Q, Q = MQ below (va_Qi (fun (r : Int32) (_ : Unit) => r = iZ (if fault tx ln = -1 then ln / 2 else -10 - fault tx ln)) (zB D vwCl (zT y) wst sz (fun _ : Unit => wM y a (if fault tx ln = -1 then parsed f tx (ln / 2).toNat else f) (if fault tx ln = -1 then svS sv f sm else sv) ai tx (if fault tx ln = -1 then smS sm else sm) ln 0 hh)) (va_A wst sz)) args ss 0 0 (va_A wst sz) := ⟨_, rfl⟩
  have hstart : Gz pp l ee ({ frames := 2, cells := 0, slots := 0, locals := 46 } : Room) ss mm args below meth cd 3 0 0 Q (Zw D vwCl (va_A wst sz) ss (wM y a f sv ai tx sm ln th hh)) 0 [(0, .ref (a 0))] [] := by
    have hX : InvX f := ⟨_, hI, by omega⟩
    have hJ := hX.J
    obtain ⟨hW, hN, hT⟩ := hJ.f
    obtain ⟨w0, w1, w2, w3, w4, w5, w6⟩ := id hW
    obtain ⟨n3, n4, n5, n6, n7, n8, n9, n10⟩ := id hN
    have fr := fault_rng (x := tx) hl
    refine z_aload_n mx mb dX5_parse_0 rfl 0 rfl ?_
    refine z_callP (As := []) (rest := []) ⟨mx, mb, mml, mo, mts⟩ hK zgw (c_X5_fault l D y a f sv ai tx sm ln th hh  (by omega) (by assumption)) (cwV 0 mts gX5_parse_X5_fault rfl rfl rfl (by decide +kernel) ⟨Nat.le_of_ble_eq_true rfl, Nat.le_of_ble_eq_true rfl⟩) (fun _ h => h) 0 wM_0 rfl rfl rfl rfl (Nat.le_of_ble_eq_true rfl) ⟨Nat.zero_le _, Nat.zero_le _⟩ dX5_parse_1 ?_
    refine z_istore_n mx mb dX5_parse_4 rfl (by decide) [(1, .int (iZ (fault tx ln))), (0, .ref (a 0))] rfl ?_
    refine z_iload_n mx mb dX5_parse_5 rfl 0 rfl ?_
    refine z_iconst mx mb dX5_parse_6 ?_
    refine z_icmp_eq (tgt := 19) mx mb (by omega) (by omega) dX5_parse_7 (by decide) (fun c7 => ?_) (fun c7 => ?_)
    · skip
      have fl := fault_ok hl c7
      refine z_aload_n mx mb dX5_parse_19 rfl 1 rfl ?_
      refine z_callV0 (As := []) (rest := []) ⟨mx, mb, mml, mo, mts⟩ hK hA (fun sz => c_X5_saves l D sz y a f sv ai tx sm ln th hh  (by omega)) (cwV 0 mts gX5_parse_X5_saves rfl rfl rfl (by decide +kernel) ⟨Nat.le_of_ble_eq_true rfl, Nat.le_of_ble_eq_true rfl⟩) 0 wM_0 rfl rfl rfl rfl (Nat.le_of_ble_eq_true rfl) ⟨Nat.zero_le _, Nat.zero_le _⟩ dX5_parse_20 (fun u20 hu20 => ?_)
      show Gz pp l ee ({ frames := 2, cells := 0, slots := 0, locals := 46 } : Room) ss mm args below meth cd 3 0 0 Q (Zw D vwCl (va_A wst sz) ss (wM y a f (svS sv f sm) ai tx (smS sm) ln th hh)) 23 [(1, .int (iZ (fault tx ln))), (0, .ref (a 0))] []
      refine z_aload_n mx mb dX5_parse_23 rfl 1 rfl ?_
      refine z_callV0 (As := []) (rest := []) ⟨mx, mb, mml, mo, mts⟩ hK hA (fun sz => c_X5_begins l D sz y a f (svS sv f sm) ai tx (smS sm) ln th hh  ) (cwV 0 mts gX5_parse_X5_begins rfl rfl rfl (by decide +kernel) ⟨Nat.le_of_ble_eq_true rfl, Nat.le_of_ble_eq_true rfl⟩) 0 wM_0 rfl rfl rfl rfl (Nat.le_of_ble_eq_true rfl) ⟨Nat.zero_le _, Nat.zero_le _⟩ dX5_parse_24 (fun u24 hu24 => ?_)
      show Gz pp l ee ({ frames := 2, cells := 0, slots := 0, locals := 46 } : Room) ss mm args below meth cd 3 0 0 Q (Zw D vwCl (va_A wst sz) ss (wM y a (begun f) (svS sv f sm) ai tx (smS sm) ln th hh)) 27 [(1, .int (iZ (fault tx ln))), (0, .ref (a 0))] []
      refine z_iconst mx mb dX5_parse_27 ?_
      refine z_istore_n mx mb dX5_parse_28 rfl (by decide) [(2, .int (iZ 0)), (1, .int (iZ (fault tx ln))), (0, .ref (a 0))] rfl ?_
      have lp29 : ∀ (nn : Nat) (i : Nat) (x2 : Int) (g : Int → Int), (ln / 2).toNat - i < nn → ((i : Int) ≤ ln / 2) → (x2 = 2 * (i : Int)) → (g = parsed f tx i) → (g 0 = (i : Int)) → Gz pp l ee ({ frames := 2, cells := 0, slots := 0, locals := 46 } : Room) ss mm args below meth cd 3 0 0 Q (Zw D vwCl (va_A wst sz) ss (wM y a g (svS sv f sm) ai tx (smS sm) ln th hh)) 29 [(0, .ref (a 0)), (1, .int (iZ (fault tx ln))), (2, .int (iZ x2))] [] := by
        intro nn
        induction nn with
        | zero => exact fun i x2 g hm => absurd hm (Nat.not_lt_zero _)
        | succ nn ih =>
          intro i x2 g hm hi e1 eg eg0
          refine z_iload_n mx mb dX5_parse_29 rfl 2 rfl ?_
          refine z_aload_n mx mb dX5_parse_30 rfl 0 rfl ?_
          refine z_get (C := RX5) (T := TX5) (N := 8) mx mb mts (in_X5_parse_X5) mo hK zgw 0 wM_0 rfl 5 (by decide) (mts _ (List.mem_of_getElem? (i := 1) rfl)) (fun _ h9 => h9) rfl dX5_parse_31 ?_
          refine z_icmp_ge (tgt := 67) mx mb (by omega) (by omega) dX5_parse_34 (by decide) (fun c34 => ?_) (fun c34 => ?_)
          · skip
            have hi5 : i = (ln / 2).toNat := by omega
            refine z_aload_n mx mb dX5_parse_67 rfl 0 rfl ?_
            refine z_aload_n mx mb dX5_parse_68 rfl 0 rfl ?_
            refine z_get (C := RX5) (T := TX5) (N := 8) mx mb mts (in_X5_parse_X5) mo hK zgw 0 wM_0 rfl 0 (by decide) (mts _ (List.mem_of_getElem? (i := 3) rfl)) (fun _ h9 => h9) rfl dX5_parse_69 ?_
            refine z_iconst mx mb dX5_parse_72 ?_
            refine z_iald mx mb hK zgw 1 0 wM_1 rfl (by decide) (by omega) dX5_parse_73 ?_
            refine z_callI0 (As := [.int (iZ (g 0))]) (rest := []) ⟨mx, mb, mml, mo, mts⟩ hK hA (fun sz => c_X5_tells l D sz y a g (svS sv f sm) ai tx (smS sm) ln th hh (g 0) ) (cwV 1 mts gX5_parse_X5_tells rfl rfl rfl (by decide +kernel) ⟨Nat.le_of_ble_eq_true rfl, Nat.le_of_ble_eq_true rfl⟩) 0 wM_0 rfl rfl rfl rfl (Nat.le_of_ble_eq_true rfl) ⟨Nat.zero_le _, Nat.zero_le _⟩ dX5_parse_74 (fun r74 u74 hu74 => ?_)
            subst hu74
            show Gz pp l ee ({ frames := 2, cells := 0, slots := 0, locals := 46 } : Room) ss mm args below meth cd 3 0 0 Q (Zw D vwCl (va_A wst sz) ss (wM y a g (svS sv f sm) ai tx (smS sm) ln 0 hh)) 77 [(0, .ref (a 0)), (1, .int (iZ (fault tx ln))), (2, .int (iZ x2))] [.int (iZ (g 0))]
            rw [hQ]
            exact z_retI mx mb mr mlk hK () (by rw [if_pos c7, eg0, hi5]; congr 1; omega) (by rw [if_pos c7, if_pos c7, if_pos c7, eg, hi5]) dX5_parse_77
          · skip
            have k1 := htx x2 (by omega) (by omega)
            have k2 := htx (x2 + 1) (by omega) (by omega)
            have k3 := kindBy_rng (tx (x2 + 1))
            refine z_aload_n mx mb dX5_parse_37 rfl 0 rfl ?_
            refine z_aload_n mx mb dX5_parse_38 rfl 0 rfl ?_
            refine z_get (C := RX5) (T := TX5) (N := 8) mx mb mts (in_X5_parse_X5) mo hK zgw 0 wM_0 rfl 4 (by decide) (mts _ (List.mem_of_getElem? (i := 2) rfl)) (fun _ h9 => h9) rfl dX5_parse_39 ?_
            refine z_iload_n mx mb dX5_parse_42 rfl 2 rfl ?_
            refine z_iald mx mb hK zgw 4 0 wM_4 rfl (by decide) (by omega) dX5_parse_43 ?_
            refine z_bipush mx mb dX5_parse_44 (by decide +kernel) ?_
            refine z_isub mx mb dX5_parse_46 ?_
            refine z_aload_n mx mb dX5_parse_47 rfl 0 rfl ?_
            refine z_get (C := RX5) (T := TX5) (N := 8) mx mb mts (in_X5_parse_X5) mo hK zgw 0 wM_0 rfl 4 (by decide) (mts _ (List.mem_of_getElem? (i := 2) rfl)) (fun _ h9 => h9) rfl dX5_parse_48 ?_
            refine z_iload_n mx mb dX5_parse_51 rfl 2 rfl ?_
            refine z_iconst mx mb dX5_parse_52 ?_
            refine z_iadd mx mb dX5_parse_53 ?_
            refine z_iald mx mb hK zgw 4 0 wM_4 rfl (by decide) (by omega) dX5_parse_54 ?_
            refine z_callPS (As := [.int (iZ (tx (x2 + 1)))]) (rest := [.int (iZ ((tx x2) - 48)), .ref (a 0)]) ⟨mx, mb, mml, mo, mts⟩ hK zgw (c_X5_kindBy l D y (tx (x2 + 1)) (by omega)) (cwS 1 mts gX5_parse_X5_kindBy rfl rfl rfl (by decide +kernel) ⟨Nat.le_of_ble_eq_true rfl, Nat.le_of_ble_eq_true rfl⟩) (fun _ h => nomatch h) rfl rfl (Nat.le_of_ble_eq_true rfl) ⟨Nat.zero_le _, Nat.zero_le _⟩ dX5_parse_55 ?_
            refine z_callV0 (As := [.int (iZ ((tx x2) - 48)), .int (iZ (kindBy (tx (x2 + 1))))]) (rest := []) ⟨mx, mb, mml, mo, mts⟩ hK hA (fun sz => c_X5_cell0 l D sz y a g (svS sv f sm) ai tx (smS sm) ln th hh ((tx x2) - 48) (kindBy (tx (x2 + 1))) (by omega) (by omega)) (cwV 2 mts gX5_parse_X5_cell0 rfl rfl rfl (by decide +kernel) ⟨Nat.le_of_ble_eq_true rfl, Nat.le_of_ble_eq_true rfl⟩) 0 wM_0 rfl rfl rfl rfl (Nat.le_of_ble_eq_true rfl) ⟨Nat.zero_le _, Nat.zero_le _⟩ dX5_parse_58 (fun u58 hu58 => ?_)
            show Gz pp l ee ({ frames := 2, cells := 0, slots := 0, locals := 46 } : Room) ss mm args below meth cd 3 0 0 Q (Zw D vwCl (va_A wst sz) ss (wM y a (addCell g ((tx x2) - 48) (kindBy (tx (x2 + 1)))) (svS sv f sm) ai tx (smS sm) ln th hh)) 61 [(0, .ref (a 0)), (1, .int (iZ (fault tx ln))), (2, .int (iZ x2))] []
            refine z_iinc mx mb dX5_parse_61 2 rfl (by decide) [(2, .int (iZ (x2 + 2))), (0, .ref (a 0)), (1, .int (iZ (fault tx ln)))] rfl ?_
            refine z_goto (tgt := 29) mx mb dX5_parse_64 (by decide) ?_
            refine z_lv [1, 2, 0] rfl ?_
            exact ih (i + 1) _ _ (by omega) (by omega) (by omega) (by rw [eg, parsed, ← e1]) (by rw [addCell_0 (by omega), eg0]; omega)
      refine z_lv [2, 1, 0] rfl ?_
      exact lp29 _ 0 0 _ (Nat.lt_succ_self _) (by omega) (by rfl) (by rfl) (by exact begun_0 f)
    · skip
      refine z_aload_n mx mb dX5_parse_10 rfl 1 rfl ?_
      refine z_bipush mx mb dX5_parse_11 (by decide +kernel) ?_
      refine z_iload_n mx mb dX5_parse_13 rfl 0 rfl ?_
      refine z_isub mx mb dX5_parse_14 ?_
      refine z_callI0 (As := [.int (iZ ((-10) - (fault tx ln)))]) (rest := []) ⟨mx, mb, mml, mo, mts⟩ hK hA (fun sz => c_X5_tells l D sz y a f sv ai tx sm ln th hh ((-10) - (fault tx ln)) ) (cwV 1 mts gX5_parse_X5_tells rfl rfl rfl (by decide +kernel) ⟨Nat.le_of_ble_eq_true rfl, Nat.le_of_ble_eq_true rfl⟩) 0 wM_0 rfl rfl rfl rfl (Nat.le_of_ble_eq_true rfl) ⟨Nat.zero_le _, Nat.zero_le _⟩ dX5_parse_15 (fun r15 u15 hu15 => ?_)
      subst hu15
      show Gz pp l ee ({ frames := 2, cells := 0, slots := 0, locals := 46 } : Room) ss mm args below meth cd 3 0 0 Q (Zw D vwCl (va_A wst sz) ss (wM y a f sv ai tx sm ln 0 hh)) 18 [(1, .int (iZ (fault tx ln))), (0, .ref (a 0))] [.int (iZ ((-10) - (fault tx ln)))]
      rw [hQ]
      exact z_retI mx mb mr mlk hK () (by rw [if_neg c7]) (by rw [if_neg c7, if_neg c7, if_neg c7]) dX5_parse_18
  subst hQ
  subst hw0
  exact hstart
