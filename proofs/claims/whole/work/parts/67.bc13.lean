set_option maxRecDepth 100000 in
set_option maxHeartbeats 4000000 in
theorem c_X5_mixTrain (l : Launch) (D : va_G) (sz : Nat) (y : Nat → ClassId) (a : Nat → Nat) (f sv ai tx : Int → Int) (sm ln th hh : Int) (t : Int) (ht : 0 ≤ t ∧ t < 4) (hI : Inv 100000 f) : Met l yX5_mixTrain wsX5_mixTrain ({ frames := 5, cells := 0, slots := 0, locals := 114 } : Room) (zPw D vwCl (zT y) (wM y a f sv ai tx sm ln th hh) sz [.ref (a 0), .int (iZ t)]) (va_Qv (fun _ : Unit => True) (zB D vwCl (zT y) (wM y a f sv ai tx sm ln th hh) sz (fun _ : Unit => wM y a f sv ai tx sm ln th (hmx (hgo (fun w => trainOf f t (w : Int)) hh 10) (whyOf f t)))) (va_A (wM y a f sv ai tx sm ln th hh) sz)) 0 0 (va_A (wM y a f sv ai tx sm ln th hh) sz) := by
  refine z_headW (cc := cX5_mixTrain) (maxL := 3) (ret := none) [(0, .ref (a 0)), (1, .int (iZ t))] rfl (Nat.le_of_ble_eq_true rfl) (by decide +kernel) rfl ?_
  intro pp ee ss mm below meth cd mx mb mr mml mo mts mlk hK hname hsz hA
  generalize ([.ref (a 0), .int (iZ t)] : List Value).toArray = args at mts ⊢
  obtain ⟨wst, hw0⟩ : ∃ wst, wst = wM y a f sv ai tx sm ln th hh := ⟨_, rfl⟩
  have hA : ∀ q, ss.heap.size ≤ q → va_A wst sz q := by rw [hw0]; exact hA
  obtain ⟨Q, hQ⟩ : ∃ Q, Q = MQ below (va_Qv (fun _ : Unit => True) (zB D vwCl (zT y) wst sz (fun _ : Unit => wM y a f sv ai tx sm ln th (hmx (hgo (fun w => trainOf f t (w : Int)) hh 10) (whyOf f t)))) (va_A wst sz)) args ss 0 0 (va_A wst sz) := ⟨_, rfl⟩
  have hstart : Gz pp l ee ({ frames := 5, cells := 0, slots := 0, locals := 114 } : Room) ss mm args below meth cd 3 0 0 Q (Zw D vwCl (va_A wst sz) ss (wM y a f sv ai tx sm ln th hh)) 0 [(0, .ref (a 0)), (1, .int (iZ t))] [] := by
    have hX : InvX f := ⟨_, hI, by omega⟩
    have hJ := hX.J
    obtain ⟨hW, hN, hT⟩ := hJ.f
    obtain ⟨w0, w1, w2, w3, w4, w5, w6⟩ := id hW
    obtain ⟨n3, n4, n5, n6, n7, n8, n9, n10⟩ := id hN
    have k0 := w6 t (by omega) (by omega)
    obtain ⟨q1, q2, q3, q5, q7⟩ := hT t (by omega) (by omega)
    refine z_iconst mx mb dX5_mixTrain_0 ?_
    refine z_istore_n mx mb dX5_mixTrain_1 rfl (by decide) [(2, .int (iZ 0)), (0, .ref (a 0)), (1, .int (iZ t))] rfl ?_
    have lp2 : ∀ (nn : Nat) (i : Nat) (x2 hx : Int), 10 - i < nn → (i ≤ 10) → (x2 = (i : Int)) → (hx = hgo (fun w => trainOf f t (w : Int)) hh i) → Gz pp l ee ({ frames := 5, cells := 0, slots := 0, locals := 114 } : Room) ss mm args below meth cd 3 0 0 Q (Zw D vwCl (va_A wst sz) ss (wM y a f sv ai tx sm ln th hx)) 2 [(0, .ref (a 0)), (1, .int (iZ t)), (2, .int (iZ x2))] [] := by
      intro nn
      induction nn with
      | zero => exact fun i x2 hx hm => absurd hm (Nat.not_lt_zero _)
      | succ nn ih =>
        intro i x2 hx hm hi e2 eh
        refine z_iload_n mx mb dX5_mixTrain_2 rfl 2 rfl ?_
        refine z_bipush mx mb dX5_mixTrain_3 (by decide +kernel) ?_
        refine z_icmp_ge (tgt := 24) mx mb (by omega) (by omega) dX5_mixTrain_5 (by decide) (fun c5 => ?_) (fun c5 => ?_)
        · skip
          have hi2 : i = 10 := by omega
          refine z_aload_n mx mb dX5_mixTrain_24 rfl 0 rfl ?_
          refine z_aload_n mx mb dX5_mixTrain_25 rfl 0 rfl ?_
          refine z_iload_n mx mb dX5_mixTrain_26 rfl 1 rfl ?_
          refine z_callP (As := [.int (iZ t)]) (rest := [.ref (a 0)]) ⟨mx, mb, mml, mo, mts⟩ hK zgw (c_X5_whyOf l D y a f sv ai tx sm ln th hx t (by omega) (by omega) (by assumption) (by assumption)) (cwV 1 mts gX5_mixTrain_X5_whyOf rfl rfl rfl (by decide +kernel) ⟨Nat.le_of_ble_eq_true rfl, Nat.le_of_ble_eq_true rfl⟩) (fun _ h => h) 0 wM_0 rfl rfl rfl rfl (Nat.le_of_ble_eq_true rfl) ⟨Nat.zero_le _, Nat.zero_le _⟩ dX5_mixTrain_27 ?_
          refine z_callV0 (As := [.int (iZ (whyOf f t))]) (rest := []) ⟨mx, mb, mml, mo, mts⟩ hK hA (fun sz => c_X5_mix l D sz y a f sv ai tx sm ln th hx (whyOf f t) ) (cwV 1 mts gX5_mixTrain_X5_mix rfl rfl rfl (by decide +kernel) ⟨Nat.le_of_ble_eq_true rfl, Nat.le_of_ble_eq_true rfl⟩) 0 wM_0 rfl rfl rfl rfl (Nat.le_of_ble_eq_true rfl) ⟨Nat.zero_le _, Nat.zero_le _⟩ dX5_mixTrain_30 (fun u30 hu30 => ?_)
          show Gz pp l ee ({ frames := 5, cells := 0, slots := 0, locals := 114 } : Room) ss mm args below meth cd 3 0 0 Q (Zw D vwCl (va_A wst sz) ss (wM y a f sv ai tx sm ln th (31 * hx + wz (whyOf f t)))) 33 [(0, .ref (a 0)), (1, .int (iZ t)), (2, .int (iZ x2))] []
          rw [hQ]
          exact z_retV mx mb mr mlk hK () (by trivial) (by rw [eh, hi2]; rfl) dX5_mixTrain_33
        · skip
          refine z_aload_n mx mb dX5_mixTrain_8 rfl 0 rfl ?_
          refine z_aload_n mx mb dX5_mixTrain_9 rfl 0 rfl ?_
          refine z_iload_n mx mb dX5_mixTrain_10 rfl 1 rfl ?_
          refine z_iload_n mx mb dX5_mixTrain_11 rfl 2 rfl ?_
          refine z_top (show x2 = (i : Int) from by exact e2) ?_
          refine z_callP (As := [.int (iZ t), .int (iZ (i : Int))]) (rest := [.ref (a 0)]) ⟨mx, mb, mml, mo, mts⟩ hK zgw (c_X5_trainOf l D y a f sv ai tx sm ln th hx t (i : Int) (by omega) (by omega) (by omega) (by assumption)) (cwV 2 mts gX5_mixTrain_X5_trainOf rfl rfl rfl (by decide +kernel) ⟨Nat.le_of_ble_eq_true rfl, Nat.le_of_ble_eq_true rfl⟩) (fun _ h => h) 0 wM_0 rfl rfl rfl rfl (Nat.le_of_ble_eq_true rfl) ⟨Nat.zero_le _, Nat.zero_le _⟩ dX5_mixTrain_12 ?_
          refine z_callV0 (As := [.int (iZ (trainOf f t (i : Int)))]) (rest := []) ⟨mx, mb, mml, mo, mts⟩ hK hA (fun sz => c_X5_mix l D sz y a f sv ai tx sm ln th hx (trainOf f t (i : Int)) ) (cwV 1 mts gX5_mixTrain_X5_mix rfl rfl rfl (by decide +kernel) ⟨Nat.le_of_ble_eq_true rfl, Nat.le_of_ble_eq_true rfl⟩) 0 wM_0 rfl rfl rfl rfl (Nat.le_of_ble_eq_true rfl) ⟨Nat.zero_le _, Nat.zero_le _⟩ dX5_mixTrain_15 (fun u15 hu15 => ?_)
          show Gz pp l ee ({ frames := 5, cells := 0, slots := 0, locals := 114 } : Room) ss mm args below meth cd 3 0 0 Q (Zw D vwCl (va_A wst sz) ss (wM y a f sv ai tx sm ln th (31 * hx + wz (trainOf f t (i : Int))))) 18 [(0, .ref (a 0)), (1, .int (iZ t)), (2, .int (iZ x2))] []
          refine z_iinc mx mb dX5_mixTrain_18 2 rfl (by decide) [(2, .int (iZ (x2 + 1))), (0, .ref (a 0)), (1, .int (iZ t))] rfl ?_
          refine z_goto (tgt := 2) mx mb dX5_mixTrain_21 (by decide) ?_
          refine z_lv [1, 2, 0] rfl ?_
          exact ih (i + 1) _ _ (by omega) (by omega) (by omega) (by rw [eh]; rfl)
    refine z_lv [1, 2, 0] rfl ?_
    exact lp2 _ 0 0 hh (Nat.lt_succ_self _) (by omega) (by rfl) (by rfl)
  subst hQ
  subst hw0
  exact hstart

theorem in_X5_digest_X5 : ∀ w ∈ wsX50, w ∈ wsX5_digest := by decide +kernel
set_option maxRecDepth 100000 in
set_option maxHeartbeats 4000000 in
theorem c_X5_digest (l : Launch) (D : va_G) (sz : Nat) (y : Nat → ClassId) (a : Nat → Nat) (f sv ai tx : Int → Int) (sm ln th hh : Int) (hI : Inv 100000 f) (hs : 0 ≤ sm ∧ sm ≤ 4) (hl : 0 ≤ ln ∧ ln ≤ 90) : Met l yX5_digest wsX5_digest ({ frames := 8, cells := 0, slots := 0, locals := 183 } : Room) (zPw D vwCl (zT y) (wM y a f sv ai tx sm ln th hh) sz [.ref (a 0)]) (va_Ql (fun (r : Int64) (_ : Int → Int) => r = lZ (dg f ln sm)) (zB D vwCl (zT y) (wM y a f sv ai tx sm ln th hh) sz (fun ai' : Int → Int => wM y a f sv ai' tx sm ln 0 (dg f ln sm))) (va_A (wM y a f sv ai tx sm ln th hh) sz)) 0 0 (va_A (wM y a f sv ai tx sm ln th hh) sz) := by
  refine z_headW (cc := cX5_digest) (maxL := 2) (ret := (some .long)) [(0, .ref (a 0))] rfl (Nat.le_of_ble_eq_true rfl) (by decide +kernel) rfl ?_
  intro pp ee ss mm below meth cd mx mb mr mml mo mts mlk hK hname hsz hA
  generalize ([.ref (a 0)] : List Value).toArray = args at mts ⊢
  obtain ⟨wst, hw0⟩ : ∃ wst, wst = wM y a f sv ai tx sm ln th hh := ⟨_, rfl⟩
  have hA : ∀ q, ss.heap.size ≤ q → va_A wst sz q := by rw [hw0]; exact hA
  obtain ⟨Q, hQ⟩ : ∃ Q, Q = MQ below (va_Ql (fun (r : Int64) (_ : Int → Int) => r = lZ (dg f ln sm)) (zB D vwCl (zT y) wst sz (fun ai' : Int → Int => wM y a f sv ai' tx sm ln 0 (dg f ln sm))) (va_A wst sz)) args ss 0 0 (va_A wst sz) := ⟨_, rfl⟩
  have hstart : Gz pp l ee ({ frames := 8, cells := 0, slots := 0, locals := 183 } : Room) ss mm args below meth cd 2 0 0 Q (Zw D vwCl (va_A wst sz) ss (wM y a f sv ai tx sm ln th hh)) 0 [(0, .ref (a 0))] [] := by
    have hX : InvX f := ⟨_, hI, by omega⟩
    have hJ := hX.J
    obtain ⟨hW, hN, hT⟩ := hJ.f
    obtain ⟨w0, w1, w2, w3, w4, w5, w6⟩ := id hW
    obtain ⟨n3, n4, n5, n6, n7, n8, n9, n10⟩ := id hN
    refine z_aload_n mx mb dX5_digest_0 rfl 0 rfl ?_
    refine z_iconst mx mb dX5_digest_1 ?_
    refine z_put (ty := .int) (C := RX5) (T := TX5) (N := 8) mx mb mts (in_X5_digest_X5) tyX5_ok nmX5 mo hK 0 wM_0 rfl 6 (by decide) (mts _ (List.mem_of_getElem? (i := 1) rfl)) (fun _ h9 => h9) rfl (by decide +kernel) rfl rfl (Nat.le_of_ble_eq_true rfl) dX5_digest_2 (wM y a f sv ai tx sm ln 0 hh) rfl ?_
    refine z_aload_n mx mb dX5_digest_5 rfl 0 rfl ?_
    refine z_ldc2 (z := 3581) mx mb mo (mts _ (List.mem_of_getElem? (i := 2) rfl)) (by decide +kernel) dX5_digest_6 ?_
    refine z_put (ty := .long) (C := RX5) (T := TX5) (N := 8) mx mb mts (in_X5_digest_X5) tyX5_ok nmX5 mo hK 0 wM_0 rfl 7 (by decide) (mts _ (List.mem_of_getElem? (i := 3) rfl)) (fun _ h9 => h9) rfl (by decide +kernel) rfl rfl (Nat.le_of_ble_eq_true rfl) dX5_digest_9 (wM y a f sv ai tx sm ln 0 3581) rfl ?_
    refine z_aload_n mx mb dX5_digest_12 rfl 0 rfl ?_
    refine z_aload_n mx mb dX5_digest_13 rfl 0 rfl ?_
    refine z_get (C := RX5) (T := TX5) (N := 8) mx mb mts (in_X5_digest_X5) mo hK zgw 0 wM_0 rfl 5 (by decide) (mts _ (List.mem_of_getElem? (i := 4) rfl)) (fun _ h9 => h9) rfl dX5_digest_14 ?_
    refine z_callV0 (As := [.int (iZ ln)]) (rest := []) ⟨mx, mb, mml, mo, mts⟩ hK hA (fun sz => c_X5_mix l D sz y a f sv ai tx sm ln 0 3581 ln ) (cwV 1 mts gX5_digest_X5_mix rfl rfl rfl (by decide +kernel) ⟨Nat.le_of_ble_eq_true rfl, Nat.le_of_ble_eq_true rfl⟩) 0 wM_0 rfl rfl rfl rfl (Nat.le_of_ble_eq_true rfl) ⟨Nat.zero_le _, Nat.zero_le _⟩ dX5_digest_17 (fun u17 hu17 => ?_)
    show Gz pp l ee ({ frames := 8, cells := 0, slots := 0, locals := 183 } : Room) ss mm args below meth cd 2 0 0 Q (Zw D vwCl (va_A wst sz) ss (wM y a f sv ai tx sm ln 0 (31 * 3581 + wz ln))) 20 [(0, .ref (a 0))] []
    refine z_iconst mx mb dX5_digest_20 ?_
    refine z_istore_n mx mb dX5_digest_21 rfl (by decide) [(1, .int (iZ 0)), (0, .ref (a 0))] rfl ?_
    have lp22 : ∀ (nn : Nat) (i : Nat) (x1 hx : Int), 12 - i < nn → ((i : Int) ≤ 12) → (x1 = (i : Int)) → (hx = hgo (fun w => valueOf f (w : Int)) (hmx 3581 ln) i) → Gz pp l ee ({ frames := 8, cells := 0, slots := 0, locals := 183 } : Room) ss mm args below meth cd 2 0 0 Q (Zw D vwCl (va_A wst sz) ss (wM y a f sv ai tx sm ln 0 hx)) 22 [(0, .ref (a 0)), (1, .int (iZ x1))] [] := by
      intro nn
      induction nn with
      | zero => exact fun i x1 hx hm => absurd hm (Nat.not_lt_zero _)
      | succ nn ih =>
        intro i x1 hx hm hi e1 eh
        refine z_iload_n mx mb dX5_digest_22 rfl 1 rfl ?_
        refine z_bipush mx mb dX5_digest_23 (by decide +kernel) ?_
        refine z_icmp_ge (tgt := 43) mx mb (by omega) (by omega) dX5_digest_25 (by decide) (fun c25 => ?_) (fun c25 => ?_)
        · skip
          have hi2 : i = 12 := by omega
          have h1e : hx = dgV f ln := (by rw [eh, hi2]; rfl)
          clear eh
          refine z_iconst mx mb dX5_digest_43 ?_
          refine z_istore_n mx mb dX5_digest_44 rfl (by decide) [(1, .int (iZ 0)), (0, .ref (a 0))] rfl ?_
          have lp45 : ∀ (nn : Nat) (i : Nat) (x1 hx : Int), (4 * f 0).toNat - i < nn → ((i : Int) ≤ 4 * f 0) → (x1 = (i : Int)) → (hx = hgo (hCell f) (dgV f ln) i) → Gz pp l ee ({ frames := 8, cells := 0, slots := 0, locals := 183 } : Room) ss mm args below meth cd 2 0 0 Q (Zw D vwCl (va_A wst sz) ss (wM y a f sv ai tx sm ln 0 hx)) 45 [(0, .ref (a 0)), (1, .int (iZ x1))] [] := by
            intro nn
            induction nn with
            | zero => exact fun i x1 hx hm => absurd hm (Nat.not_lt_zero _)
            | succ nn ih45 =>
              intro i x1 hx hm hi e1 eh
              refine z_iload_n mx mb dX5_digest_45 rfl 1 rfl ?_
              refine z_iconst mx mb dX5_digest_46 ?_
              refine z_aload_n mx mb dX5_digest_47 rfl 0 rfl ?_
              refine z_get (C := RX5) (T := TX5) (N := 8) mx mb mts (in_X5_digest_X5) mo hK zgw 0 wM_0 rfl 0 (by decide) (mts _ (List.mem_of_getElem? (i := 5) rfl)) (fun _ h9 => h9) rfl dX5_digest_48 ?_
              refine z_iconst mx mb dX5_digest_51 ?_
              refine z_iald mx mb hK zgw 1 0 wM_1 rfl (by decide) (by omega) dX5_digest_52 ?_
              refine z_imul mx mb dX5_digest_53 ?_
              refine z_icmp_ge (tgt := 77) mx mb (by omega) (by omega) dX5_digest_54 (by decide) (fun c54 => ?_) (fun c54 => ?_)
              · skip
                have hi2 : i = 4 * (f 0).toNat := by omega
                have h2e : hx = dgC f (dgV f ln) := (by rw [eh, hi2]; rfl)
                clear eh
                refine z_iconst mx mb dX5_digest_77 ?_
                refine z_istore_n mx mb dX5_digest_78 rfl (by decide) [(1, .int (iZ 0)), (0, .ref (a 0))] rfl ?_
                have lp79 : ∀ (nn : Nat) (i : Nat) (x1 hx : Int), (5 * f 1).toNat - i < nn → ((i : Int) ≤ 5 * f 1) → (x1 = (i : Int)) → (hx = hgo (hBlk f) (dgC f (dgV f ln)) i) → Gz pp l ee ({ frames := 8, cells := 0, slots := 0, locals := 183 } : Room) ss mm args below meth cd 2 0 0 Q (Zw D vwCl (va_A wst sz) ss (wM y a f sv ai tx sm ln 0 hx)) 79 [(0, .ref (a 0)), (1, .int (iZ x1))] [] := by
                  intro nn
                  induction nn with
                  | zero => exact fun i x1 hx hm => absurd hm (Nat.not_lt_zero _)
                  | succ nn ih79 =>
                    intro i x1 hx hm hi e1 eh
                    refine z_iload_n mx mb dX5_digest_79 rfl 1 rfl ?_
                    refine z_iconst mx mb dX5_digest_80 ?_
                    refine z_aload_n mx mb dX5_digest_81 rfl 0 rfl ?_
                    refine z_get (C := RX5) (T := TX5) (N := 8) mx mb mts (in_X5_digest_X5) mo hK zgw 0 wM_0 rfl 0 (by decide) (mts _ (List.mem_of_getElem? (i := 5) rfl)) (fun _ h9 => h9) rfl dX5_digest_82 ?_
                    refine z_iconst mx mb dX5_digest_85 ?_
                    refine z_iald mx mb hK zgw 1 0 wM_1 rfl (by decide) (by omega) dX5_digest_86 ?_
                    refine z_imul mx mb dX5_digest_87 ?_
                    refine z_icmp_ge (tgt := 111) mx mb (by omega) (by omega) dX5_digest_88 (by decide) (fun c88 => ?_) (fun c88 => ?_)
                    · skip
                      have hi2 : i = 5 * (f 1).toNat := by omega
                      have h3e : hx = dgB f (dgC f (dgV f ln)) := (by rw [eh, hi2]; rfl)
                      clear eh
                      refine z_iconst mx mb dX5_digest_111 ?_
                      refine z_istore_n mx mb dX5_digest_112 rfl (by decide) [(1, .int (iZ 0)), (0, .ref (a 0))] rfl ?_
                      have lp113 : ∀ (nn : Nat) (i : Nat) (x1 hx : Int), (f 2).toNat - i < nn → ((i : Int) ≤ f 2) → (x1 = (i : Int)) → (hx = hTr f (dgB f (dgC f (dgV f ln))) i) → Gz pp l ee ({ frames := 8, cells := 0, slots := 0, locals := 183 } : Room) ss mm args below meth cd 2 0 0 Q (Zw D vwCl (va_A wst sz) ss (wM y a f sv ai tx sm ln 0 hx)) 113 [(0, .ref (a 0)), (1, .int (iZ x1))] [] := by
                        intro nn
                        induction nn with
                        | zero => exact fun i x1 hx hm => absurd hm (Nat.not_lt_zero _)
                        | succ nn ih113 =>
                          intro i x1 hx hm hi e1 eh
                          refine z_iload_n mx mb dX5_digest_113 rfl 1 rfl ?_
                          refine z_aload_n mx mb dX5_digest_114 rfl 0 rfl ?_
                          refine z_get (C := RX5) (T := TX5) (N := 8) mx mb mts (in_X5_digest_X5) mo hK zgw 0 wM_0 rfl 0 (by decide) (mts _ (List.mem_of_getElem? (i := 5) rfl)) (fun _ h9 => h9) rfl dX5_digest_115 ?_
                          refine z_iconst mx mb dX5_digest_118 ?_
                          refine z_iald mx mb hK zgw 1 0 wM_1 rfl (by decide) (by omega) dX5_digest_119 ?_
                          refine z_icmp_ge (tgt := 134) mx mb (by omega) (by omega) dX5_digest_120 (by decide) (fun c120 => ?_) (fun c120 => ?_)
                          · skip
                            have hi2 : i = (f 2).toNat := by omega
                            have h4e : hx = dgT f (dgB f (dgC f (dgV f ln))) := (by rw [eh, hi2]; rfl)
                            clear eh
                            refine z_aload_n mx mb dX5_digest_134 rfl 0 rfl ?_
                            refine z_get (C := RX5) (T := TX5) (N := 8) mx mb mts (in_X5_digest_X5) mo hK zgw 0 wM_0 rfl 0 (by decide) (mts _ (List.mem_of_getElem? (i := 5) rfl)) (fun _ h9 => h9) rfl dX5_digest_135 ?_
                            refine z_bipush mx mb dX5_digest_138 (by decide +kernel) ?_
                            refine z_iald mx mb hK zgw 1 0 wM_1 rfl (by decide) (by omega) dX5_digest_140 ?_
                            refine z_iconst mx mb dX5_digest_141 ?_
                            refine z_isub mx mb dX5_digest_142 ?_
                            refine z_istore_n mx mb dX5_digest_143 rfl (by decide) [(1, .int (iZ ((f 10) - 1))), (0, .ref (a 0))] rfl ?_
                            have lp144 : ∀ (nn : Nat) (i : Nat) (x1 hx : Int), (f 10).toNat - i < nn → ((i : Int) ≤ f 10) → (x1 = f 10 - 1 - (i : Int)) → (hx = hgo (hLog f) (dgT f (dgB f (dgC f (dgV f ln)))) (2 * i)) → Gz pp l ee ({ frames := 8, cells := 0, slots := 0, locals := 183 } : Room) ss mm args below meth cd 2 0 0 Q (Zw D vwCl (va_A wst sz) ss (wM y a f sv ai tx sm ln 0 hx)) 144 [(0, .ref (a 0)), (1, .int (iZ x1))] [] := by
                              intro nn
                              induction nn with
                              | zero => exact fun i x1 hx hm => absurd hm (Nat.not_lt_zero _)
                              | succ nn ih144 =>
                                intro i x1 hx hm hi e1 eh
                                refine z_iload_n mx mb dX5_digest_144 rfl 1 rfl ?_
                                refine z_if_lt (tgt := 186) mx mb (by omega) dX5_digest_145 (by decide) (fun c145 => ?_) (fun c145 => ?_)
                                · skip
                                  have hi2 : i = (f 10).toNat := by omega
                                  have h5e : hx = dgL f (dgT f (dgB f (dgC f (dgV f ln)))) := (by rw [eh, hi2]; rfl)
                                  clear eh
                                  refine z_aload_n mx mb dX5_digest_186 rfl 0 rfl ?_
                                  refine z_aload_n mx mb dX5_digest_187 rfl 0 rfl ?_
                                  refine z_sipush mx mb dX5_digest_188 (by decide +kernel) ?_
                                  refine z_callI0 (As := [.int (iZ 2000)]) (rest := [.ref (a 0)]) ⟨mx, mb, mml, mo, mts⟩ hK hA (fun sz => c_X5_toValley l D sz y a f sv ai tx sm ln 0 hx 2000 (by omega) (Inv_le hI (by omega))) (cwV 1 mts gX5_digest_X5_toValley rfl rfl rfl (by decide +kernel) ⟨Nat.le_of_ble_eq_true rfl, Nat.le_of_ble_eq_true rfl⟩) 0 wM_0 rfl rfl rfl rfl (Nat.le_of_ble_eq_true rfl) ⟨Nat.zero_le _, Nat.zero_le _⟩ dX5_digest_191 (fun r191 u191 hu191 => ?_)
                                  subst hu191
                                  show Gz pp l ee ({ frames := 8, cells := 0, slots := 0, locals := 183 } : Room) ss mm args below meth cd 2 0 0 Q (Zw D vwCl (va_A wst sz) ss (wM y a f sv u191 tx sm ln 0 hx)) 194 [(0, .ref (a 0)), (1, .int (iZ x1))] [.int (iZ (toValley f 2000)), .ref (a 0)]
                                  refine z_callV0 (As := [.int (iZ (toValley f 2000))]) (rest := []) ⟨mx, mb, mml, mo, mts⟩ hK hA (fun sz => c_X5_mix l D sz y a f sv u191 tx sm ln 0 hx (toValley f 2000) ) (cwV 1 mts gX5_digest_X5_mix rfl rfl rfl (by decide +kernel) ⟨Nat.le_of_ble_eq_true rfl, Nat.le_of_ble_eq_true rfl⟩) 0 wM_0 rfl rfl rfl rfl (Nat.le_of_ble_eq_true rfl) ⟨Nat.zero_le _, Nat.zero_le _⟩ dX5_digest_194 (fun u194 hu194 => ?_)
                                  show Gz pp l ee ({ frames := 8, cells := 0, slots := 0, locals := 183 } : Room) ss mm args below meth cd 2 0 0 Q (Zw D vwCl (va_A wst sz) ss (wM y a f sv u191 tx sm ln 0 (31 * hx + wz (toValley f 2000)))) 197 [(0, .ref (a 0)), (1, .int (iZ x1))] []
                                  refine z_aload_n mx mb dX5_digest_197 rfl 0 rfl ?_
                                  refine z_aload_n mx mb dX5_digest_198 rfl 0 rfl ?_
                                  refine z_get (C := RX5) (T := TX5) (N := 8) mx mb mts (in_X5_digest_X5) mo hK zgw 0 wM_0 rfl 3 (by decide) (mts _ (List.mem_of_getElem? (i := 6) rfl)) (fun _ h9 => h9) rfl dX5_digest_199 ?_
                                  refine z_callV0 (As := [.int (iZ sm)]) (rest := []) ⟨mx, mb, mml, mo, mts⟩ hK hA (fun sz => c_X5_mix l D sz y a f sv u191 tx sm ln 0 (31 * hx + wz (toValley f 2000)) sm ) (cwV 1 mts gX5_digest_X5_mix rfl rfl rfl (by decide +kernel) ⟨Nat.le_of_ble_eq_true rfl, Nat.le_of_ble_eq_true rfl⟩) 0 wM_0 rfl rfl rfl rfl (Nat.le_of_ble_eq_true rfl) ⟨Nat.zero_le _, Nat.zero_le _⟩ dX5_digest_202 (fun u202 hu202 => ?_)
                                  show Gz pp l ee ({ frames := 8, cells := 0, slots := 0, locals := 183 } : Room) ss mm args below meth cd 2 0 0 Q (Zw D vwCl (va_A wst sz) ss (wM y a f sv u191 tx sm ln 0 (31 * (31 * hx + wz (toValley f 2000)) + wz sm))) 205 [(0, .ref (a 0)), (1, .int (iZ x1))] []
                                  refine z_aload_n mx mb dX5_digest_205 rfl 0 rfl ?_
                                  refine z_get (C := RX5) (T := TX5) (N := 8) mx mb mts (in_X5_digest_X5) mo hK zgw 0 wM_0 rfl 7 (by decide) (mts _ (List.mem_of_getElem? (i := 3) rfl)) (fun _ h9 => h9) rfl dX5_digest_206 ?_
                                  rw [hQ]
                                  exact z_retL mx mb mr mlk hK u191 (by rw [h5e]; rfl) (by rw [h5e]; rfl) dX5_digest_209
                                · skip
                                  refine z_aload_n mx mb dX5_digest_148 rfl 0 rfl ?_
                                  refine z_aload_n mx mb dX5_digest_149 rfl 0 rfl ?_
                                  refine z_get (C := RX5) (T := TX5) (N := 8) mx mb mts (in_X5_digest_X5) mo hK zgw 0 wM_0 rfl 0 (by decide) (mts _ (List.mem_of_getElem? (i := 5) rfl)) (fun _ h9 => h9) rfl dX5_digest_150 ?_
                                  refine z_bipush mx mb dX5_digest_153 (by decide +kernel) ?_
                                  refine z_iconst mx mb dX5_digest_155 ?_
                                  refine z_iload_n mx mb dX5_digest_156 rfl 1 rfl ?_
                                  refine z_imul mx mb dX5_digest_157 ?_
                                  refine z_iadd mx mb dX5_digest_158 ?_
                                  refine z_iald mx mb hK zgw 1 0 wM_1 rfl (by decide) (by omega) dX5_digest_159 ?_
                                  refine z_top (show f (111 + (2 * x1)) = hLog f (2 * i) from by unfold hLog; congr 1; omega) ?_
                                  refine z_callV0 (As := [.int (iZ (hLog f (2 * i)))]) (rest := []) ⟨mx, mb, mml, mo, mts⟩ hK hA (fun sz => c_X5_mix l D sz y a f sv ai tx sm ln 0 hx (hLog f (2 * i)) ) (cwV 1 mts gX5_digest_X5_mix rfl rfl rfl (by decide +kernel) ⟨Nat.le_of_ble_eq_true rfl, Nat.le_of_ble_eq_true rfl⟩) 0 wM_0 rfl rfl rfl rfl (Nat.le_of_ble_eq_true rfl) ⟨Nat.zero_le _, Nat.zero_le _⟩ dX5_digest_160 (fun u160 hu160 => ?_)
                                  show Gz pp l ee ({ frames := 8, cells := 0, slots := 0, locals := 183 } : Room) ss mm args below meth cd 2 0 0 Q (Zw D vwCl (va_A wst sz) ss (wM y a f sv ai tx sm ln 0 (31 * hx + wz (hLog f (2 * i))))) 163 [(0, .ref (a 0)), (1, .int (iZ x1))] []
                                  refine z_aload_n mx mb dX5_digest_163 rfl 0 rfl ?_
                                  refine z_aload_n mx mb dX5_digest_164 rfl 0 rfl ?_
                                  refine z_get (C := RX5) (T := TX5) (N := 8) mx mb mts (in_X5_digest_X5) mo hK zgw 0 wM_0 rfl 0 (by decide) (mts _ (List.mem_of_getElem? (i := 5) rfl)) (fun _ h9 => h9) rfl dX5_digest_165 ?_
                                  refine z_bipush mx mb dX5_digest_168 (by decide +kernel) ?_
                                  refine z_iconst mx mb dX5_digest_170 ?_
                                  refine z_iload_n mx mb dX5_digest_171 rfl 1 rfl ?_
                                  refine z_imul mx mb dX5_digest_172 ?_
                                  refine z_iadd mx mb dX5_digest_173 ?_
                                  refine z_iconst mx mb dX5_digest_174 ?_
                                  refine z_iadd mx mb dX5_digest_175 ?_
                                  refine z_iald mx mb hK zgw 1 0 wM_1 rfl (by decide) (by omega) dX5_digest_176 ?_
                                  refine z_top (show f ((111 + (2 * x1)) + 1) = hLog f (2 * i + 1) from by unfold hLog; congr 1; omega) ?_
                                  refine z_callV0 (As := [.int (iZ (hLog f (2 * i + 1)))]) (rest := []) ⟨mx, mb, mml, mo, mts⟩ hK hA (fun sz => c_X5_mix l D sz y a f sv ai tx sm ln 0 (31 * hx + wz (hLog f (2 * i))) (hLog f (2 * i + 1)) ) (cwV 1 mts gX5_digest_X5_mix rfl rfl rfl (by decide +kernel) ⟨Nat.le_of_ble_eq_true rfl, Nat.le_of_ble_eq_true rfl⟩) 0 wM_0 rfl rfl rfl rfl (Nat.le_of_ble_eq_true rfl) ⟨Nat.zero_le _, Nat.zero_le _⟩ dX5_digest_177 (fun u177 hu177 => ?_)
                                  show Gz pp l ee ({ frames := 8, cells := 0, slots := 0, locals := 183 } : Room) ss mm args below meth cd 2 0 0 Q (Zw D vwCl (va_A wst sz) ss (wM y a f sv ai tx sm ln 0 (31 * (31 * hx + wz (hLog f (2 * i))) + wz (hLog f (2 * i + 1))))) 180 [(0, .ref (a 0)), (1, .int (iZ x1))] []
                                  refine z_iinc mx mb dX5_digest_180 1 rfl (by decide) [(1, .int (iZ (x1 + (-1)))), (0, .ref (a 0))] rfl ?_
                                  refine z_goto (tgt := 144) mx mb dX5_digest_183 (by decide) ?_
                                  refine z_lv [1, 0] rfl ?_
                                  exact ih144 (i + 1) _ _ (by omega) (by omega) (by omega) (by rw [eh]; rfl)
                            refine z_lv [1, 0] rfl ?_
                            exact lp144 _ 0 _ _ (Nat.lt_succ_self _) (by omega) (by omega) (by first | rfl | assumption)
                          · skip
                            refine z_aload_n mx mb dX5_digest_123 rfl 0 rfl ?_
                            refine z_iload_n mx mb dX5_digest_124 rfl 1 rfl ?_
                            refine z_top (show x1 = (i : Int) from by exact e1) ?_
                            refine z_callV0 (As := [.int (iZ (i : Int))]) (rest := []) ⟨mx, mb, mml, mo, mts⟩ hK hA (fun sz => c_X5_mixTrain l D sz y a f sv ai tx sm ln 0 hx (i : Int) (by omega) (by assumption)) (cwV 1 mts gX5_digest_X5_mixTrain rfl rfl rfl (by decide +kernel) ⟨Nat.le_of_ble_eq_true rfl, Nat.le_of_ble_eq_true rfl⟩) 0 wM_0 rfl rfl rfl rfl (Nat.le_of_ble_eq_true rfl) ⟨Nat.zero_le _, Nat.zero_le _⟩ dX5_digest_125 (fun u125 hu125 => ?_)
                            show Gz pp l ee ({ frames := 8, cells := 0, slots := 0, locals := 183 } : Room) ss mm args below meth cd 2 0 0 Q (Zw D vwCl (va_A wst sz) ss (wM y a f sv ai tx sm ln 0 (hmx (hgo (fun w => trainOf f (i : Int) (w : Int)) hx 10) (whyOf f (i : Int))))) 128 [(0, .ref (a 0)), (1, .int (iZ x1))] []
                            refine z_iinc mx mb dX5_digest_128 1 rfl (by decide) [(1, .int (iZ (x1 + 1))), (0, .ref (a 0))] rfl ?_
                            refine z_goto (tgt := 113) mx mb dX5_digest_131 (by decide) ?_
                            refine z_lv [1, 0] rfl ?_
                            exact ih113 (i + 1) _ _ (by omega) (by omega) (by omega) (by rw [eh]; rfl)
                      refine z_lv [1, 0] rfl ?_
                      exact lp113 _ 0 0 _ (Nat.lt_succ_self _) (by omega) (by rfl) (by first | rfl | assumption)
                    · skip
                      refine z_aload_n mx mb dX5_digest_91 rfl 0 rfl ?_
                      refine z_aload_n mx mb dX5_digest_92 rfl 0 rfl ?_
                      refine z_iload_n mx mb dX5_digest_93 rfl 1 rfl ?_
                      refine z_top (show x1 = (i : Int) from by exact e1) ?_
                      refine z_iconst mx mb dX5_digest_94 ?_
                      refine z_idiv mx mb (by omega) (by omega) dX5_digest_95 ?_
                      refine z_iload_n mx mb dX5_digest_96 rfl 1 rfl ?_
                      refine z_top (show x1 = (i : Int) from by exact e1) ?_
                      refine z_iconst mx mb dX5_digest_97 ?_
                      refine z_irem mx mb (by omega) (by omega) dX5_digest_98 ?_
                      refine z_callP (As := [.int (iZ ((i : Int) / 5)), .int (iZ ((i : Int) % 5))]) (rest := [.ref (a 0)]) ⟨mx, mb, mml, mo, mts⟩ hK zgw (c_X5_blockOf l D y a f sv ai tx sm ln 0 hx ((i : Int) / 5) ((i : Int) % 5) (by omega) (by omega) (by assumption)) (cwV 2 mts gX5_digest_X5_blockOf rfl rfl rfl (by decide +kernel) ⟨Nat.le_of_ble_eq_true rfl, Nat.le_of_ble_eq_true rfl⟩) (fun _ h => h) 0 wM_0 rfl rfl rfl rfl (Nat.le_of_ble_eq_true rfl) ⟨Nat.zero_le _, Nat.zero_le _⟩ dX5_digest_99 ?_
                      refine z_callV0 (As := [.int (iZ (blockOf f ((i : Int) / 5) ((i : Int) % 5)))]) (rest := []) ⟨mx, mb, mml, mo, mts⟩ hK hA (fun sz => c_X5_mix l D sz y a f sv ai tx sm ln 0 hx (blockOf f ((i : Int) / 5) ((i : Int) % 5)) ) (cwV 1 mts gX5_digest_X5_mix rfl rfl rfl (by decide +kernel) ⟨Nat.le_of_ble_eq_true rfl, Nat.le_of_ble_eq_true rfl⟩) 0 wM_0 rfl rfl rfl rfl (Nat.le_of_ble_eq_true rfl) ⟨Nat.zero_le _, Nat.zero_le _⟩ dX5_digest_102 (fun u102 hu102 => ?_)
                      show Gz pp l ee ({ frames := 8, cells := 0, slots := 0, locals := 183 } : Room) ss mm args below meth cd 2 0 0 Q (Zw D vwCl (va_A wst sz) ss (wM y a f sv ai tx sm ln 0 (31 * hx + wz (blockOf f ((i : Int) / 5) ((i : Int) % 5))))) 105 [(0, .ref (a 0)), (1, .int (iZ x1))] []
                      refine z_iinc mx mb dX5_digest_105 1 rfl (by decide) [(1, .int (iZ (x1 + 1))), (0, .ref (a 0))] rfl ?_
                      refine z_goto (tgt := 79) mx mb dX5_digest_108 (by decide) ?_
                      refine z_lv [1, 0] rfl ?_
                      exact ih79 (i + 1) _ _ (by omega) (by omega) (by omega) (by rw [eh]; rfl)
                refine z_lv [1, 0] rfl ?_
                exact lp79 _ 0 0 _ (Nat.lt_succ_self _) (by omega) (by rfl) (by first | rfl | assumption)
              · skip
                refine z_aload_n mx mb dX5_digest_57 rfl 0 rfl ?_
                refine z_aload_n mx mb dX5_digest_58 rfl 0 rfl ?_
                refine z_iload_n mx mb dX5_digest_59 rfl 1 rfl ?_
                refine z_top (show x1 = (i : Int) from by exact e1) ?_
                refine z_iconst mx mb dX5_digest_60 ?_
                refine z_idiv mx mb (by omega) (by omega) dX5_digest_61 ?_
                refine z_iload_n mx mb dX5_digest_62 rfl 1 rfl ?_
                refine z_top (show x1 = (i : Int) from by exact e1) ?_
                refine z_iconst mx mb dX5_digest_63 ?_
                refine z_irem mx mb (by omega) (by omega) dX5_digest_64 ?_
                refine z_callP (As := [.int (iZ ((i : Int) / 4)), .int (iZ ((i : Int) % 4))]) (rest := [.ref (a 0)]) ⟨mx, mb, mml, mo, mts⟩ hK zgw (c_X5_cellOf l D y a f sv ai tx sm ln 0 hx ((i : Int) / 4) ((i : Int) % 4) (by omega) (by omega) (by assumption)) (cwV 2 mts gX5_digest_X5_cellOf rfl rfl rfl (by decide +kernel) ⟨Nat.le_of_ble_eq_true rfl, Nat.le_of_ble_eq_true rfl⟩) (fun _ h => h) 0 wM_0 rfl rfl rfl rfl (Nat.le_of_ble_eq_true rfl) ⟨Nat.zero_le _, Nat.zero_le _⟩ dX5_digest_65 ?_
                refine z_callV0 (As := [.int (iZ (cellOf f ((i : Int) / 4) ((i : Int) % 4)))]) (rest := []) ⟨mx, mb, mml, mo, mts⟩ hK hA (fun sz => c_X5_mix l D sz y a f sv ai tx sm ln 0 hx (cellOf f ((i : Int) / 4) ((i : Int) % 4)) ) (cwV 1 mts gX5_digest_X5_mix rfl rfl rfl (by decide +kernel) ⟨Nat.le_of_ble_eq_true rfl, Nat.le_of_ble_eq_true rfl⟩) 0 wM_0 rfl rfl rfl rfl (Nat.le_of_ble_eq_true rfl) ⟨Nat.zero_le _, Nat.zero_le _⟩ dX5_digest_68 (fun u68 hu68 => ?_)
                show Gz pp l ee ({ frames := 8, cells := 0, slots := 0, locals := 183 } : Room) ss mm args below meth cd 2 0 0 Q (Zw D vwCl (va_A wst sz) ss (wM y a f sv ai tx sm ln 0 (31 * hx + wz (cellOf f ((i : Int) / 4) ((i : Int) % 4))))) 71 [(0, .ref (a 0)), (1, .int (iZ x1))] []
                refine z_iinc mx mb dX5_digest_71 1 rfl (by decide) [(1, .int (iZ (x1 + 1))), (0, .ref (a 0))] rfl ?_
                refine z_goto (tgt := 45) mx mb dX5_digest_74 (by decide) ?_
                refine z_lv [1, 0] rfl ?_
                exact ih45 (i + 1) _ _ (by omega) (by omega) (by omega) (by rw [eh]; rfl)
          refine z_lv [1, 0] rfl ?_
          exact lp45 _ 0 0 _ (Nat.lt_succ_self _) (by omega) (by rfl) (by first | rfl | assumption)
        · skip
          refine z_aload_n mx mb dX5_digest_28 rfl 0 rfl ?_
          refine z_aload_n mx mb dX5_digest_29 rfl 0 rfl ?_
          refine z_iload_n mx mb dX5_digest_30 rfl 1 rfl ?_
          refine z_top (show x1 = (i : Int) from by exact e1) ?_
          refine z_callP (As := [.int (iZ (i : Int))]) (rest := [.ref (a 0)]) ⟨mx, mb, mml, mo, mts⟩ hK zgw (c_X5_valueOf l D y a f sv ai tx sm ln 0 hx (i : Int) (by omega) (by assumption)) (cwV 1 mts gX5_digest_X5_valueOf rfl rfl rfl (by decide +kernel) ⟨Nat.le_of_ble_eq_true rfl, Nat.le_of_ble_eq_true rfl⟩) (fun _ h => h) 0 wM_0 rfl rfl rfl rfl (Nat.le_of_ble_eq_true rfl) ⟨Nat.zero_le _, Nat.zero_le _⟩ dX5_digest_31 ?_
          refine z_callV0 (As := [.int (iZ (valueOf f (i : Int)))]) (rest := []) ⟨mx, mb, mml, mo, mts⟩ hK hA (fun sz => c_X5_mix l D sz y a f sv ai tx sm ln 0 hx (valueOf f (i : Int)) ) (cwV 1 mts gX5_digest_X5_mix rfl rfl rfl (by decide +kernel) ⟨Nat.le_of_ble_eq_true rfl, Nat.le_of_ble_eq_true rfl⟩) 0 wM_0 rfl rfl rfl rfl (Nat.le_of_ble_eq_true rfl) ⟨Nat.zero_le _, Nat.zero_le _⟩ dX5_digest_34 (fun u34 hu34 => ?_)
          show Gz pp l ee ({ frames := 8, cells := 0, slots := 0, locals := 183 } : Room) ss mm args below meth cd 2 0 0 Q (Zw D vwCl (va_A wst sz) ss (wM y a f sv ai tx sm ln 0 (31 * hx + wz (valueOf f (i : Int))))) 37 [(0, .ref (a 0)), (1, .int (iZ x1))] []
          refine z_iinc mx mb dX5_digest_37 1 rfl (by decide) [(1, .int (iZ (x1 + 1))), (0, .ref (a 0))] rfl ?_
          refine z_goto (tgt := 22) mx mb dX5_digest_40 (by decide) ?_
          refine z_lv [1, 0] rfl ?_
          exact ih (i + 1) _ _ (by omega) (by omega) (by omega) (by rw [eh]; rfl)
    refine z_lv [1, 0] rfl ?_
    exact lp22 _ 0 0 _ (Nat.lt_succ_self _) (by omega) (by rfl) (by first | rfl | assumption)
  subst hQ
  subst hw0
  exact hstart

theorem in_X5_meanWarmth_X5 : ∀ w ∈ wsX50, w ∈ wsX5_meanWarmth := by decide +kernel
set_option maxRecDepth 100000 in
set_option maxHeartbeats 4000000 in
theorem c_X5_meanWarmth (l : Launch) (D : va_G) (sz : Nat) (y : Nat → ClassId) (a : Nat → Nat) (f sv ai tx : Int → Int) (sm ln th hh : Int) (hI : Inv 100000 f) : Met l yX5_meanWarmth wsX5_meanWarmth ({ frames := 1, cells := 0, slots := 0, locals := 22 } : Room) (zPw D vwCl (zT y) (wM y a f sv ai tx sm ln th hh) sz [.ref (a 0)]) (va_Qd (fun (r : UInt64) (_ : Unit) => r = warmM f) (zB D vwCl (zT y) (wM y a f sv ai tx sm ln th hh) sz (fun _ : Unit => wM y a f sv ai tx sm ln 0 hh)) (va_A (wM y a f sv ai tx sm ln th hh) sz)) 0 0 (va_A (wM y a f sv ai tx sm ln th hh) sz) := by
  refine z_headW (cc := cX5_meanWarmth) (maxL := 3) (ret := (some .double)) [(0, .ref (a 0))] rfl (Nat.le_of_ble_eq_true rfl) (by decide +kernel) rfl ?_
  intro pp ee ss mm below meth cd mx mb mr mml mo mts mlk hK hname hsz hA
  generalize ([.ref (a 0)] : List Value).toArray = args at mts ⊢
  obtain ⟨wst, hw0⟩ : ∃ wst, wst = wM y a f sv ai tx sm ln th hh := ⟨_, rfl⟩
  have hA : ∀ q, ss.heap.size ≤ q → va_A wst sz q := by rw [hw0]; exact hA
  obtain ⟨Q, hQ⟩ : ∃ Q, Q = MQ below (va_Qd (fun (r : UInt64) (_ : Unit) => r = warmM f) (zB D vwCl (zT y) wst sz (fun _ : Unit => wM y a f sv ai tx sm ln 0 hh)) (va_A wst sz)) args ss 0 0 (va_A wst sz) := ⟨_, rfl⟩
  have hstart : Gz pp l ee ({ frames := 1, cells := 0, slots := 0, locals := 22 } : Room) ss mm args below meth cd 3 0 0 Q (Zw D vwCl (va_A wst sz) ss (wM y a f sv ai tx sm ln th hh)) 0 [(0, .ref (a 0))] [] := by
    have hX : InvX f := ⟨_, hI, by omega⟩
    have hJ := hX.J
    obtain ⟨hW, hN, hT⟩ := hJ.f
    obtain ⟨w0, w1, w2, w3, w4, w5, w6⟩ := id hW
    obtain ⟨n3, n4, n5, n6, n7, n8, n9, n10⟩ := id hN
    refine z_aload_n mx mb dX5_meanWarmth_0 rfl 0 rfl ?_
    refine z_iconst mx mb dX5_meanWarmth_1 ?_
    refine z_put (ty := .int) (C := RX5) (T := TX5) (N := 8) mx mb mts (in_X5_meanWarmth_X5) tyX5_ok nmX5 mo hK 0 wM_0 rfl 6 (by decide) (mts _ (List.mem_of_getElem? (i := 1) rfl)) (fun _ h9 => h9) rfl (by decide +kernel) rfl rfl (Nat.le_of_ble_eq_true rfl) dX5_meanWarmth_2 (wM y a f sv ai tx sm ln 0 hh) rfl ?_
    refine z_iconst mx mb dX5_meanWarmth_5 ?_
    refine z_istore_n mx mb dX5_meanWarmth_6 rfl (by decide) [(1, .int (iZ 0)), (0, .ref (a 0))] rfl ?_
    refine z_iconst mx mb dX5_meanWarmth_7 ?_
    refine z_istore_n mx mb dX5_meanWarmth_8 rfl (by decide) [(2, .int (iZ 0)), (1, .int (iZ 0)), (0, .ref (a 0))] rfl ?_
    have lp9 : ∀ (nn : Nat) (i : Nat) (x1 x2 : Int), (f 2).toNat - i < nn → ((i : Int) ≤ f 2) → (x2 = (i : Int)) → (x1 = wsum f i) → (0 ≤ x1 ∧ x1 ≤ 100 * (i : Int)) → Gz pp l ee ({ frames := 1, cells := 0, slots := 0, locals := 22 } : Room) ss mm args below meth cd 3 0 0 Q (Zw D vwCl (va_A wst sz) ss (wM y a f sv ai tx sm ln 0 hh)) 9 [(0, .ref (a 0)), (1, .int (iZ x1)), (2, .int (iZ x2))] [] := by
      intro nn
      induction nn with
      | zero => exact fun i x1 x2 hm => absurd hm (Nat.not_lt_zero _)
      | succ nn ih =>
        intro i x1 x2 hm hi e2 e1 hr
        refine z_iload_n mx mb dX5_meanWarmth_9 rfl 2 rfl ?_
        refine z_aload_n mx mb dX5_meanWarmth_10 rfl 0 rfl ?_
        refine z_get (C := RX5) (T := TX5) (N := 8) mx mb mts (in_X5_meanWarmth_X5) mo hK zgw 0 wM_0 rfl 0 (by decide) (mts _ (List.mem_of_getElem? (i := 2) rfl)) (fun _ h9 => h9) rfl dX5_meanWarmth_11 ?_
        refine z_iconst mx mb dX5_meanWarmth_14 ?_
        refine z_iald mx mb hK zgw 1 0 wM_1 rfl (by decide) (by omega) dX5_meanWarmth_15 ?_
        refine z_icmp_ge (tgt := 34) mx mb (by omega) (by omega) dX5_meanWarmth_16 (by decide) (fun c16 => ?_) (fun c16 => ?_)
        · skip
          have hi2 : i = (f 2).toNat := by omega
          refine z_aload_n mx mb dX5_meanWarmth_34 rfl 0 rfl ?_
          refine z_get (C := RX5) (T := TX5) (N := 8) mx mb mts (in_X5_meanWarmth_X5) mo hK zgw 0 wM_0 rfl 0 (by decide) (mts _ (List.mem_of_getElem? (i := 2) rfl)) (fun _ h9 => h9) rfl dX5_meanWarmth_35 ?_
          refine z_iconst mx mb dX5_meanWarmth_38 ?_
          refine z_iald mx mb hK zgw 1 0 wM_1 rfl (by decide) (by omega) dX5_meanWarmth_39 ?_
          refine z_if_ne (tgt := 47) mx mb (by omega) dX5_meanWarmth_40 (by decide) (fun c40 => ?_) (fun c40 => ?_)
          · skip
            refine z_iload_n mx mb dX5_meanWarmth_47 rfl 1 rfl ?_
            refine z_i2d mx mb dX5_meanWarmth_48 ?_
            refine z_aload_n mx mb dX5_meanWarmth_49 rfl 0 rfl ?_
            refine z_get (C := RX5) (T := TX5) (N := 8) mx mb mts (in_X5_meanWarmth_X5) mo hK zgw 0 wM_0 rfl 0 (by decide) (mts _ (List.mem_of_getElem? (i := 2) rfl)) (fun _ h9 => h9) rfl dX5_meanWarmth_50 ?_
            refine z_iconst mx mb dX5_meanWarmth_53 ?_
            refine z_iald mx mb hK zgw 1 0 wM_1 rfl (by decide) (by omega) dX5_meanWarmth_54 ?_
            refine z_i2d mx mb dX5_meanWarmth_55 ?_
            refine z_ddiv mx mb dX5_meanWarmth_56 (dd_ok (by omega) (by omega)) ?_
            rw [hQ]
            exact z_retD mx mb mr mlk hK () (by unfold warmM; rw [if_neg c40, e1, hi2]) rfl dX5_meanWarmth_57
          · skip
            refine z_dconst0 mx mb dX5_meanWarmth_43 ?_
            refine z_goto (tgt := 57) mx mb dX5_meanWarmth_44 (by decide) ?_
            rw [hQ]
            exact z_retD mx mb mr mlk hK () (by unfold warmM; rw [if_pos c40]) rfl dX5_meanWarmth_57
        · skip
          have k3 := (hT (i : Int) (by omega) (by omega)).2.2.1
          refine z_iload_n mx mb dX5_meanWarmth_19 rfl 1 rfl ?_
          refine z_aload_n mx mb dX5_meanWarmth_20 rfl 0 rfl ?_
          refine z_iload_n mx mb dX5_meanWarmth_21 rfl 2 rfl ?_
          refine z_top (show x2 = (i : Int) from by exact e2) ?_
          refine z_iconst mx mb dX5_meanWarmth_22 ?_
          refine z_callP (As := [.int (iZ (i : Int)), .int (iZ 3)]) (rest := [.int (iZ x1)]) ⟨mx, mb, mml, mo, mts⟩ hK zgw (c_X5_of l D y a f sv ai tx sm ln 0 hh (i : Int) 3 (by omega)) (cwV 2 mts gX5_meanWarmth_X5_of rfl rfl rfl (by decide +kernel) ⟨Nat.le_of_ble_eq_true rfl, Nat.le_of_ble_eq_true rfl⟩) (fun _ h => h) 0 wM_0 rfl rfl rfl rfl (Nat.le_of_ble_eq_true rfl) ⟨Nat.zero_le _, Nat.zero_le _⟩ dX5_meanWarmth_23 ?_
          refine z_iadd mx mb dX5_meanWarmth_26 ?_
          refine z_istore_n mx mb dX5_meanWarmth_27 rfl (by decide) [(1, .int (iZ (x1 + (f (79 + 8 * (i : Int) + 3))))), (0, .ref (a 0)), (2, .int (iZ x2))] rfl ?_
          refine z_iinc mx mb dX5_meanWarmth_28 2 rfl (by decide) [(2, .int (iZ (x2 + 1))), (1, .int (iZ (x1 + (f (79 + 8 * (i : Int) + 3))))), (0, .ref (a 0))] rfl ?_
          refine z_goto (tgt := 9) mx mb dX5_meanWarmth_31 (by decide) ?_
          refine z_lv [2, 1, 0] rfl ?_
          exact ih (i + 1) _ _ (by omega) (by omega) (by omega) (by rw [e1]; rfl) (by omega)
    refine z_lv [2, 1, 0] rfl ?_
    exact lp9 _ 0 0 0 (Nat.lt_succ_self _) (by omega) (by rfl) (by rfl) (by omega)
  subst hQ
  subst hw0
  exact hstart
