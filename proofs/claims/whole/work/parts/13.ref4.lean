theorem in_X5_goes_X5 : ∀ w ∈ wsX50, w ∈ wsX5_goes := by decide +kernel
set_option maxRecDepth 100000 in
set_option maxHeartbeats 4000000 in
theorem c_X5_goes (l : Launch) (D : va_G) (sz : Nat) (y : Nat → ClassId) (a : Nat → Nat) (f sv ai tx : Int → Int) (sm ln th hh : Int) (t : Int) (ht : 0 ≤ t ∧ t < 4) (hJ : Jx f) (hm : f (79 + 8 * t + 4) = 0) : Met l yX5_goes wsX5_goes ({ frames := 5, cells := 0, slots := 0, locals := 116 } : Room) (zPw D vwCl (zT y) (wM y a f sv ai tx sm ln th hh) sz [.ref (a 0), .int (iZ t)]) (va_Qv (fun _ : Unit => True) (zB D vwCl (zT y) (wM y a f sv ai tx sm ln th hh) sz (fun _ : Unit => wM y a (goes f t) sv ai tx sm ln th hh)) (va_A (wM y a f sv ai tx sm ln th hh) sz)) 0 0 (va_A (wM y a f sv ai tx sm ln th hh) sz) := by
  refine z_headW (cc := cX5_goes) (maxL := 3) (ret := none) [(0, .ref (a 0)), (1, .int (iZ t))] rfl (Nat.le_of_ble_eq_true rfl) (by decide +kernel) rfl ?_
  intro pp ee ss mm below meth cd mx mb mr mml mo mts mlk hK hname hsz hA
  generalize ([.ref (a 0), .int (iZ t)] : List Value).toArray = args at mts ⊢
  obtain ⟨wst, hw0⟩ : ∃ wst, wst = wM y a f sv ai tx sm ln th hh := ⟨_, rfl⟩
  have hA : ∀ q, ss.heap.size ≤ q → va_A wst sz q := by rw [hw0]; exact hA
  obtain ⟨Q, hQ⟩ : ∃ Q, Q = MQ below (va_Qv (fun _ : Unit => True) (zB D vwCl (zT y) wst sz (fun _ : Unit => wM y a (goes f t) sv ai tx sm ln th hh)) (va_A wst sz)) args ss 0 0 (va_A wst sz) := ⟨_, rfl⟩
  have hstart : Gz pp l ee ({ frames := 5, cells := 0, slots := 0, locals := 116 } : Room) ss mm args below meth cd 3 0 0 Q (Zw D vwCl (va_A wst sz) ss (wM y a f sv ai tx sm ln th hh)) 0 [(0, .ref (a 0)), (1, .int (iZ t))] [] := by
    obtain ⟨hW, hN, hT⟩ := hJ.f
    obtain ⟨w0, w1, w2, w3, w4, w5, w6⟩ := id hW
    obtain ⟨n3, n4, n5, n6, n7, n8, n9, n10⟩ := id hN
    have k0 := w6 t (by omega) (by omega)
    obtain ⟨q1, q2, q3, q5, q7⟩ := hT t (by omega) (by omega)
    have kk := w4 (f (79 + 8 * t + 0)) (by omega) (by omega)
    have hby : 0 ≤ by' f t ∧ by' f t ≤ 99 := by obtain ⟨_, _, _, h9, _⟩ := hJ; exact by_rng h9 (by omega)
    refine z_aload_n mx mb dX5_goes_0 rfl 0 rfl ?_
    refine z_get (C := RX5) (T := TX5) (N := 8) mx mb mts (in_X5_goes_X5) mo hK zgw 0 wM_0 rfl 0 (by decide) (mts _ (List.mem_of_getElem? (i := 1) rfl)) (fun _ h9 => h9) rfl dX5_goes_1 ?_
    refine z_bipush mx mb dX5_goes_4 (by decide +kernel) ?_
    refine z_aload_n mx mb dX5_goes_6 rfl 0 rfl ?_
    refine z_iload_n mx mb dX5_goes_7 rfl 1 rfl ?_
    refine z_iconst mx mb dX5_goes_8 ?_
    refine z_callP (As := [.int (iZ t), .int (iZ 0)]) (rest := [.int (iZ 41), .ref (a 1)]) ⟨mx, mb, mml, mo, mts⟩ hK zgw (c_X5_of l D y a f sv ai tx sm ln th hh t 0 (by omega)) (cwV 2 mts gX5_goes_X5_of rfl rfl rfl (by decide +kernel) ⟨Nat.le_of_ble_eq_true rfl, Nat.le_of_ble_eq_true rfl⟩) (fun _ h => h) 0 wM_0 rfl rfl rfl rfl (Nat.le_of_ble_eq_true rfl) ⟨Nat.zero_le _, Nat.zero_le _⟩ dX5_goes_9 ?_
    refine z_iadd mx mb dX5_goes_12 ?_
    refine z_iald mx mb hK zgw 1 0 wM_1 rfl (by decide) (by omega) dX5_goes_13 ?_
    refine z_iconst mx mb dX5_goes_14 ?_
    have jn31 : ∀ (x : Int), (x = by' f t) → Gz pp l ee ({ frames := 5, cells := 0, slots := 0, locals := 116 } : Room) ss mm args below meth cd 3 0 0 Q (Zw D vwCl (va_A wst sz) ss (wM y a f sv ai tx sm ln th hh)) 31 [(0, .ref (a 0)), (1, .int (iZ t))] [.int (iZ x)] := by
      intro x eb
      have hx : 0 ≤ x ∧ x ≤ 99 := by rw [eb]; exact hby
      refine z_istore_n mx mb dX5_goes_31 rfl (by decide) [(2, .int (iZ x)), (0, .ref (a 0)), (1, .int (iZ t))] rfl ?_
      refine z_aload_n mx mb dX5_goes_32 rfl 1 rfl ?_
      refine z_iload_n mx mb dX5_goes_33 rfl 2 rfl ?_
      refine z_iconst mx mb dX5_goes_34 ?_
      refine z_aload_n mx mb dX5_goes_35 rfl 1 rfl ?_
      refine z_iload_n mx mb dX5_goes_36 rfl 2 rfl ?_
      refine z_iconst mx mb dX5_goes_37 ?_
      refine z_callP (As := [.int (iZ t), .int (iZ 2)]) (rest := [.int (iZ 2), .int (iZ t), .ref (a 0)]) ⟨mx, mb, mml, mo, mts⟩ hK zgw (c_X5_of l D y a f sv ai tx sm ln th hh t 2 (by omega)) (cwV 2 mts gX5_goes_X5_of rfl rfl rfl (by decide +kernel) ⟨Nat.le_of_ble_eq_true rfl, Nat.le_of_ble_eq_true rfl⟩) (fun _ h => h) 0 wM_0 rfl rfl rfl rfl (Nat.le_of_ble_eq_true rfl) ⟨Nat.zero_le _, Nat.zero_le _⟩ dX5_goes_38 ?_
      refine z_iload_n mx mb dX5_goes_41 rfl 0 rfl ?_
      refine z_iadd mx mb dX5_goes_42 ?_
      refine z_callV0 (As := [.int (iZ t), .int (iZ 2), .int (iZ ((f (79 + 8 * t + 2)) + x))]) (rest := []) ⟨mx, mb, mml, mo, mts⟩ hK hA (fun sz => c_X5_put l D sz y a f sv ai tx sm ln th hh t 2 ((f (79 + 8 * t + 2)) + x) (by omega)) (cwV 3 mts gX5_goes_X5_put rfl rfl rfl (by decide +kernel) ⟨Nat.le_of_ble_eq_true rfl, Nat.le_of_ble_eq_true rfl⟩) 0 wM_0 rfl rfl rfl rfl (Nat.le_of_ble_eq_true rfl) ⟨Nat.zero_le _, Nat.zero_le _⟩ dX5_goes_43 (fun u43 hu43 => ?_)
      show Gz pp l ee ({ frames := 5, cells := 0, slots := 0, locals := 116 } : Room) ss mm args below meth cd 3 0 0 Q (Zw D vwCl (va_A wst sz) ss (wM y a (put f t 2 ((f (79 + 8 * t + 2)) + x)) sv ai tx sm ln th hh)) 46 [(2, .int (iZ x)), (0, .ref (a 0)), (1, .int (iZ t))] []
      refine z_aload_n mx mb dX5_goes_46 rfl 1 rfl ?_
      refine z_iload_n mx mb dX5_goes_47 rfl 2 rfl ?_
      refine z_iconst mx mb dX5_goes_48 ?_
      refine z_callP (As := [.int (iZ t), .int (iZ 4)]) (rest := []) ⟨mx, mb, mml, mo, mts⟩ hK zgw (c_X5_of l D y a (put f t 2 ((f (79 + 8 * t + 2)) + x)) sv ai tx sm ln th hh t 4 (by omega)) (cwV 2 mts gX5_goes_X5_of rfl rfl rfl (by decide +kernel) ⟨Nat.le_of_ble_eq_true rfl, Nat.le_of_ble_eq_true rfl⟩) (fun _ h => h) 0 wM_0 rfl rfl rfl rfl (Nat.le_of_ble_eq_true rfl) ⟨Nat.zero_le _, Nat.zero_le _⟩ dX5_goes_49 ?_
      rw [show (put f t 2 ((f (79 + 8 * t + 2)) + x)) (79 + 8 * t + 4) = f (79 + 8 * t + 4) from by exact put_n (by omega)]
      refine z_if_ne (tgt := 89) mx mb (by omega) dX5_goes_52 (by decide) (fun c52 => ?_) (fun c52 => ?_)
      · skip
        exact absurd c52 (by omega)
      · skip
        refine z_aload_n mx mb dX5_goes_55 rfl 1 rfl ?_
        refine z_iload_n mx mb dX5_goes_56 rfl 2 rfl ?_
        refine z_iconst mx mb dX5_goes_57 ?_
        refine z_callP (As := [.int (iZ t), .int (iZ 2)]) (rest := []) ⟨mx, mb, mml, mo, mts⟩ hK zgw (c_X5_of l D y a (put f t 2 ((f (79 + 8 * t + 2)) + x)) sv ai tx sm ln th hh t 2 (by omega)) (cwV 2 mts gX5_goes_X5_of rfl rfl rfl (by decide +kernel) ⟨Nat.le_of_ble_eq_true rfl, Nat.le_of_ble_eq_true rfl⟩) (fun _ h => h) 0 wM_0 rfl rfl rfl rfl (Nat.le_of_ble_eq_true rfl) ⟨Nat.zero_le _, Nat.zero_le _⟩ dX5_goes_58 ?_
        rw [show (put f t 2 ((f (79 + 8 * t + 2)) + x)) (79 + 8 * t + 2) = f (79 + 8 * t + 2) + x from by exact put_s _ _ _ _]
        refine z_bipush mx mb dX5_goes_61 (by decide +kernel) ?_
        refine z_icmp_lt (tgt := 89) mx mb (by omega) (by omega) dX5_goes_63 (by decide) (fun c63 => ?_) (fun c63 => ?_)
        · skip
          rw [hQ]
          exact z_retV mx mb mr mlk hK () (by trivial) (by rw [goes, if_pos (by rw [← eb]; omega), ← eb]) dX5_goes_89
        · skip
          refine z_aload_n mx mb dX5_goes_66 rfl 1 rfl ?_
          refine z_iload_n mx mb dX5_goes_67 rfl 2 rfl ?_
          refine z_iconst mx mb dX5_goes_68 ?_
          refine z_aload_n mx mb dX5_goes_69 rfl 1 rfl ?_
          refine z_iload_n mx mb dX5_goes_70 rfl 2 rfl ?_
          refine z_iconst mx mb dX5_goes_71 ?_
          refine z_callP (As := [.int (iZ t), .int (iZ 2)]) (rest := [.int (iZ 2), .int (iZ t), .ref (a 0)]) ⟨mx, mb, mml, mo, mts⟩ hK zgw (c_X5_of l D y a (put f t 2 ((f (79 + 8 * t + 2)) + x)) sv ai tx sm ln th hh t 2 (by omega)) (cwV 2 mts gX5_goes_X5_of rfl rfl rfl (by decide +kernel) ⟨Nat.le_of_ble_eq_true rfl, Nat.le_of_ble_eq_true rfl⟩) (fun _ h => h) 0 wM_0 rfl rfl rfl rfl (Nat.le_of_ble_eq_true rfl) ⟨Nat.zero_le _, Nat.zero_le _⟩ dX5_goes_72 ?_
          rw [show (put f t 2 ((f (79 + 8 * t + 2)) + x)) (79 + 8 * t + 2) = f (79 + 8 * t + 2) + x from by exact put_s _ _ _ _]
          refine z_bipush mx mb dX5_goes_75 (by decide +kernel) ?_
          refine z_isub mx mb dX5_goes_77 ?_
          refine z_callV0 (As := [.int (iZ t), .int (iZ 2), .int (iZ ((f (79 + 8 * t + 2) + x) - 100))]) (rest := []) ⟨mx, mb, mml, mo, mts⟩ hK hA (fun sz => c_X5_put l D sz y a (put f t 2 ((f (79 + 8 * t + 2)) + x)) sv ai tx sm ln th hh t 2 ((f (79 + 8 * t + 2) + x) - 100) (by omega)) (cwV 3 mts gX5_goes_X5_put rfl rfl rfl (by decide +kernel) ⟨Nat.le_of_ble_eq_true rfl, Nat.le_of_ble_eq_true rfl⟩) 0 wM_0 rfl rfl rfl rfl (Nat.le_of_ble_eq_true rfl) ⟨Nat.zero_le _, Nat.zero_le _⟩ dX5_goes_78 (fun u78 hu78 => ?_)
          show Gz pp l ee ({ frames := 5, cells := 0, slots := 0, locals := 116 } : Room) ss mm args below meth cd 3 0 0 Q (Zw D vwCl (va_A wst sz) ss (wM y a (put (put f t 2 ((f (79 + 8 * t + 2)) + x)) t 2 ((f (79 + 8 * t + 2) + x) - 100)) sv ai tx sm ln th hh)) 81 [(2, .int (iZ x)), (0, .ref (a 0)), (1, .int (iZ t))] []
          have jp : Jx (put (put f t 2 (f (79 + 8 * t + 2) + x)) t 2 (f (79 + 8 * t + 2) + x - 100)) := by rw [put_put]; exact hJ.put2 (by omega) (by omega)
          have jm := (jp.moves (t := t) (by omega)).f
          have jm1 := (jm.1.2.2.2.2.2.2 t (by omega) (by omega)).2
          have jm2 := (jm.2.2 t (by omega) (by omega)).2.1
          refine z_aload_n mx mb dX5_goes_81 rfl 1 rfl ?_
          refine z_iload_n mx mb dX5_goes_82 rfl 2 rfl ?_
          refine z_callV0 (As := [.int (iZ t)]) (rest := []) ⟨mx, mb, mml, mo, mts⟩ hK hA (fun sz => c_X5_moves l D sz y a (put (put f t 2 ((f (79 + 8 * t + 2)) + x)) t 2 ((f (79 + 8 * t + 2) + x) - 100)) sv ai tx sm ln th hh t (by omega) jp) (cwV 1 mts gX5_goes_X5_moves rfl rfl rfl (by decide +kernel) ⟨Nat.le_of_ble_eq_true rfl, Nat.le_of_ble_eq_true rfl⟩) 0 wM_0 rfl rfl rfl rfl (Nat.le_of_ble_eq_true rfl) ⟨Nat.zero_le _, Nat.zero_le _⟩ dX5_goes_83 (fun u83 hu83 => ?_)
          show Gz pp l ee ({ frames := 5, cells := 0, slots := 0, locals := 116 } : Room) ss mm args below meth cd 3 0 0 Q (Zw D vwCl (va_A wst sz) ss (wM y a (moves (put (put f t 2 ((f (79 + 8 * t + 2)) + x)) t 2 ((f (79 + 8 * t + 2) + x) - 100)) t) sv ai tx sm ln th hh)) 86 [(2, .int (iZ x)), (0, .ref (a 0)), (1, .int (iZ t))] []
          refine z_goto (tgt := 46) mx mb dX5_goes_86 (by decide) ?_
          refine z_aload_n mx mb dX5_goes_46 rfl 1 rfl ?_
          refine z_iload_n mx mb dX5_goes_47 rfl 2 rfl ?_
          refine z_iconst mx mb dX5_goes_48 ?_
          refine z_callP (As := [.int (iZ t), .int (iZ 4)]) (rest := []) ⟨mx, mb, mml, mo, mts⟩ hK zgw (c_X5_of l D y a (moves (put (put f t 2 ((f (79 + 8 * t + 2)) + x)) t 2 ((f (79 + 8 * t + 2) + x) - 100)) t) sv ai tx sm ln th hh t 4 (by omega)) (cwV 2 mts gX5_goes_X5_of rfl rfl rfl (by decide +kernel) ⟨Nat.le_of_ble_eq_true rfl, Nat.le_of_ble_eq_true rfl⟩) (fun _ h => h) 0 wM_0 rfl rfl rfl rfl (Nat.le_of_ble_eq_true rfl) ⟨Nat.zero_le _, Nat.zero_le _⟩ dX5_goes_49 ?_
          refine z_if_ne (tgt := 89) mx mb (by omega) dX5_goes_52 (by decide) (fun c52 => ?_) (fun c52 => ?_)
          · skip
            rw [hQ]
            exact z_retV mx mb mr mlk hK () (by trivial) (by rw [goes, if_neg (by rw [← eb]; omega), ← eb]) dX5_goes_89
          · skip
            refine z_aload_n mx mb dX5_goes_55 rfl 1 rfl ?_
            refine z_iload_n mx mb dX5_goes_56 rfl 2 rfl ?_
            refine z_iconst mx mb dX5_goes_57 ?_
            refine z_callP (As := [.int (iZ t), .int (iZ 2)]) (rest := []) ⟨mx, mb, mml, mo, mts⟩ hK zgw (c_X5_of l D y a (moves (put (put f t 2 ((f (79 + 8 * t + 2)) + x)) t 2 ((f (79 + 8 * t + 2) + x) - 100)) t) sv ai tx sm ln th hh t 2 (by omega)) (cwV 2 mts gX5_goes_X5_of rfl rfl rfl (by decide +kernel) ⟨Nat.le_of_ble_eq_true rfl, Nat.le_of_ble_eq_true rfl⟩) (fun _ h => h) 0 wM_0 rfl rfl rfl rfl (Nat.le_of_ble_eq_true rfl) ⟨Nat.zero_le _, Nat.zero_le _⟩ dX5_goes_58 ?_
            refine z_bipush mx mb dX5_goes_61 (by decide +kernel) ?_
            refine z_icmp_lt (tgt := 89) mx mb (by omega) (by omega) dX5_goes_63 (by decide) (fun c63 => ?_) (fun c63 => ?_)
            · skip
              rw [hQ]
              exact z_retV mx mb mr mlk hK () (by trivial) (by rw [goes, if_neg (by rw [← eb]; omega), ← eb]) dX5_goes_89
            · skip
              exact absurd c63 (by omega)
    refine z_icmp_ne (tgt := 22) mx mb (by omega) (by omega) dX5_goes_15 (by decide) (fun c15 => ?_) (fun c15 => ?_)
    · skip
      refine z_aload_n mx mb dX5_goes_22 rfl 0 rfl ?_
      refine z_iload_n mx mb dX5_goes_23 rfl 1 rfl ?_
      refine z_iconst mx mb dX5_goes_24 ?_
      refine z_callP (As := [.int (iZ t), .int (iZ 1)]) (rest := []) ⟨mx, mb, mml, mo, mts⟩ hK zgw (c_X5_of l D y a f sv ai tx sm ln th hh t 1 (by omega)) (cwV 2 mts gX5_goes_X5_of rfl rfl rfl (by decide +kernel) ⟨Nat.le_of_ble_eq_true rfl, Nat.le_of_ble_eq_true rfl⟩) (fun _ h => h) 0 wM_0 rfl rfl rfl rfl (Nat.le_of_ble_eq_true rfl) ⟨Nat.zero_le _, Nat.zero_le _⟩ dX5_goes_25 ?_
      refine z_callPS (As := [.int (iZ (f (79 + 8 * t + 1)))]) (rest := []) ⟨mx, mb, mml, mo, mts⟩ hK zgw (c_X5_root l D y (f (79 + 8 * t + 1)) (by omega)) (cwS 1 mts gX5_goes_X5_root rfl rfl rfl (by decide +kernel) ⟨Nat.le_of_ble_eq_true rfl, Nat.le_of_ble_eq_true rfl⟩) (fun _ h => nomatch h) rfl rfl (Nat.le_of_ble_eq_true rfl) ⟨Nat.zero_le _, Nat.zero_le _⟩ dX5_goes_28 ?_
      exact jn31 _ (by unfold by'; rw [if_neg c15])
    · skip
      refine z_iconst mx mb dX5_goes_18 ?_
      refine z_goto (tgt := 31) mx mb dX5_goes_19 (by decide) ?_
      exact jn31 _ (by unfold by'; rw [if_pos c15])
  subst hQ
  subst hw0
  exact hstart

theorem in_X5_warms_X5 : ∀ w ∈ wsX50, w ∈ wsX5_warms := by decide +kernel
set_option maxRecDepth 100000 in
set_option maxHeartbeats 4000000 in
theorem c_X5_warms (l : Launch) (D : va_G) (sz : Nat) (y : Nat → ClassId) (a : Nat → Nat) (f sv ai tx : Int → Int) (sm ln th hh : Int) (t : Int) (ht : 0 ≤ t ∧ t < 4) (hJ : Jy f) : Met l yX5_warms wsX5_warms ({ frames := 1, cells := 0, slots := 0, locals := 23 } : Room) (zPw D vwCl (zT y) (wM y a f sv ai tx sm ln th hh) sz [.ref (a 0), .int (iZ t)]) (va_Qv (fun _ : Unit => True) (zB D vwCl (zT y) (wM y a f sv ai tx sm ln th hh) sz (fun _ : Unit => wM y a (warms f t) sv ai tx sm ln th hh)) (va_A (wM y a f sv ai tx sm ln th hh) sz)) 0 0 (va_A (wM y a f sv ai tx sm ln th hh) sz) := by
  refine z_headW (cc := cX5_warms) (maxL := 3) (ret := none) [(0, .ref (a 0)), (1, .int (iZ t))] rfl (Nat.le_of_ble_eq_true rfl) (by decide +kernel) rfl ?_
  intro pp ee ss mm below meth cd mx mb mr mml mo mts mlk hK hname hsz hA
  generalize ([.ref (a 0), .int (iZ t)] : List Value).toArray = args at mts ⊢
  obtain ⟨wst, hw0⟩ : ∃ wst, wst = wM y a f sv ai tx sm ln th hh := ⟨_, rfl⟩
  have hA : ∀ q, ss.heap.size ≤ q → va_A wst sz q := by rw [hw0]; exact hA
  obtain ⟨Q, hQ⟩ : ∃ Q, Q = MQ below (va_Qv (fun _ : Unit => True) (zB D vwCl (zT y) wst sz (fun _ : Unit => wM y a (warms f t) sv ai tx sm ln th hh)) (va_A wst sz)) args ss 0 0 (va_A wst sz) := ⟨_, rfl⟩
  have hstart : Gz pp l ee ({ frames := 1, cells := 0, slots := 0, locals := 23 } : Room) ss mm args below meth cd 3 0 0 Q (Zw D vwCl (va_A wst sz) ss (wM y a f sv ai tx sm ln th hh)) 0 [(0, .ref (a 0)), (1, .int (iZ t))] [] := by
    obtain ⟨hW, hN, hT⟩ := hJ.f
    obtain ⟨w0, w1, w2, w3, w4, w5, w6⟩ := id hW
    obtain ⟨n3, n4, n5, n6, n7, n8, n9, n10⟩ := id hN
    have k0 := w6 t (by omega) (by omega)
    obtain ⟨q1, q2, q3, q5, q7⟩ := hT t (by omega) (by omega)
    have hht : 0 ≤ heat f t ∧ heat f t ≤ 109 := by obtain ⟨_, _, _, h9⟩ := hJ; exact heat_rng h9 (by omega)
    have hr := root_spec q1
    refine z_aload_n mx mb dX5_warms_0 rfl 0 rfl ?_
    refine z_iload_n mx mb dX5_warms_1 rfl 1 rfl ?_
    refine z_iconst mx mb dX5_warms_2 ?_
    refine z_callP (As := [.int (iZ t), .int (iZ 3)]) (rest := []) ⟨mx, mb, mml, mo, mts⟩ hK zgw (c_X5_of l D y a f sv ai tx sm ln th hh t 3 (by omega)) (cwV 2 mts gX5_warms_X5_of rfl rfl rfl (by decide +kernel) ⟨Nat.le_of_ble_eq_true rfl, Nat.le_of_ble_eq_true rfl⟩) (fun _ h => h) 0 wM_0 rfl rfl rfl rfl (Nat.le_of_ble_eq_true rfl) ⟨Nat.zero_le _, Nat.zero_le _⟩ dX5_warms_3 ?_
    refine z_aload_n mx mb dX5_warms_6 rfl 0 rfl ?_
    refine z_iload_n mx mb dX5_warms_7 rfl 1 rfl ?_
    refine z_iconst mx mb dX5_warms_8 ?_
    refine z_callP (As := [.int (iZ t), .int (iZ 4)]) (rest := [.int (iZ (f (79 + 8 * t + 3)))]) ⟨mx, mb, mml, mo, mts⟩ hK zgw (c_X5_of l D y a f sv ai tx sm ln th hh t 4 (by omega)) (cwV 2 mts gX5_warms_X5_of rfl rfl rfl (by decide +kernel) ⟨Nat.le_of_ble_eq_true rfl, Nat.le_of_ble_eq_true rfl⟩) (fun _ h => h) 0 wM_0 rfl rfl rfl rfl (Nat.le_of_ble_eq_true rfl) ⟨Nat.zero_le _, Nat.zero_le _⟩ dX5_warms_9 ?_
    have jn33 : ∀ (x : Int), (x = heat f t) → Gz pp l ee ({ frames := 1, cells := 0, slots := 0, locals := 23 } : Room) ss mm args below meth cd 3 0 0 Q (Zw D vwCl (va_A wst sz) ss (wM y a f sv ai tx sm ln th hh)) 33 [(0, .ref (a 0)), (1, .int (iZ t)), (2, .int (iZ x))] [] := by
      intro x eh
      rw [← eh] at hht
      refine z_iload_n mx mb dX5_warms_33 rfl 2 rfl ?_
      refine z_bipush mx mb dX5_warms_34 (by decide +kernel) ?_
      have jn46 : ∀ (z : Int), (z = cap100 (heat f t)) → (0 ≤ z ∧ z ≤ 100) → Gz pp l ee ({ frames := 1, cells := 0, slots := 0, locals := 23 } : Room) ss mm args below meth cd 3 0 0 Q (Zw D vwCl (va_A wst sz) ss (wM y a f sv ai tx sm ln th hh)) 46 [(0, .ref (a 0)), (1, .int (iZ t)), (2, .int (iZ z))] [] := by
        intro z ez hz
        refine z_aload_n mx mb dX5_warms_46 rfl 0 rfl ?_
        refine z_iload_n mx mb dX5_warms_47 rfl 1 rfl ?_
        refine z_iconst mx mb dX5_warms_48 ?_
        refine z_iload_n mx mb dX5_warms_49 rfl 2 rfl ?_
        refine z_aload_n mx mb dX5_warms_50 rfl 0 rfl ?_
        refine z_get (C := RX5) (T := TX5) (N := 8) mx mb mts (in_X5_warms_X5) mo hK zgw 0 wM_0 rfl 0 (by decide) (mts _ (List.mem_of_getElem? (i := 1) rfl)) (fun _ h9 => h9) rfl dX5_warms_51 ?_
        refine z_bipush mx mb dX5_warms_54 (by decide +kernel) ?_
        refine z_iald mx mb hK zgw 1 0 wM_1 rfl (by decide) (by omega) dX5_warms_56 ?_
        refine z_icmp_ge (tgt := 66) mx mb (by omega) (by omega) dX5_warms_57 (by decide) (fun c57 => ?_) (fun c57 => ?_)
        · skip
          refine z_iload_n mx mb dX5_warms_66 rfl 2 rfl ?_
          refine z_aload_n mx mb dX5_warms_67 rfl 0 rfl ?_
          refine z_get (C := RX5) (T := TX5) (N := 8) mx mb mts (in_X5_warms_X5) mo hK zgw 0 wM_0 rfl 0 (by decide) (mts _ (List.mem_of_getElem? (i := 1) rfl)) (fun _ h9 => h9) rfl dX5_warms_68 ?_
          refine z_bipush mx mb dX5_warms_71 (by decide +kernel) ?_
          refine z_iald mx mb hK zgw 1 0 wM_1 rfl (by decide) (by omega) dX5_warms_73 ?_
          refine z_icmp_le (tgt := 83) mx mb (by omega) (by omega) dX5_warms_74 (by decide) (fun c74 => ?_) (fun c74 => ?_)
          · skip
            refine z_iload_n mx mb dX5_warms_83 rfl 2 rfl ?_
            refine z_callV0 (As := [.int (iZ t), .int (iZ 3), .int (iZ z)]) (rest := []) ⟨mx, mb, mml, mo, mts⟩ hK hA (fun sz => c_X5_put l D sz y a f sv ai tx sm ln th hh t 3 z (by omega)) (cwV 3 mts gX5_warms_X5_put rfl rfl rfl (by decide +kernel) ⟨Nat.le_of_ble_eq_true rfl, Nat.le_of_ble_eq_true rfl⟩) 0 wM_0 rfl rfl rfl rfl (Nat.le_of_ble_eq_true rfl) ⟨Nat.zero_le _, Nat.zero_le _⟩ dX5_warms_84 (fun u84 hu84 => ?_)
            show Gz pp l ee ({ frames := 1, cells := 0, slots := 0, locals := 23 } : Room) ss mm args below meth cd 3 0 0 Q (Zw D vwCl (va_A wst sz) ss (wM y a (put f t 3 z) sv ai tx sm ln th hh)) 87 [(0, .ref (a 0)), (1, .int (iZ t)), (2, .int (iZ z))] []
            rw [hQ]
            exact z_retV mx mb mr mlk hK () (by trivial) (by unfold warms near; rw [← ez, if_neg (by omega), if_neg (by omega)]) dX5_warms_87
          · skip
            refine z_iload_n mx mb dX5_warms_77 rfl 2 rfl ?_
            refine z_iconst mx mb dX5_warms_78 ?_
            refine z_isub mx mb dX5_warms_79 ?_
            refine z_goto (tgt := 84) mx mb dX5_warms_80 (by decide) ?_
            refine z_callV0 (As := [.int (iZ t), .int (iZ 3), .int (iZ (z - 1))]) (rest := []) ⟨mx, mb, mml, mo, mts⟩ hK hA (fun sz => c_X5_put l D sz y a f sv ai tx sm ln th hh t 3 (z - 1) (by omega)) (cwV 3 mts gX5_warms_X5_put rfl rfl rfl (by decide +kernel) ⟨Nat.le_of_ble_eq_true rfl, Nat.le_of_ble_eq_true rfl⟩) 0 wM_0 rfl rfl rfl rfl (Nat.le_of_ble_eq_true rfl) ⟨Nat.zero_le _, Nat.zero_le _⟩ dX5_warms_84 (fun u84 hu84 => ?_)
            show Gz pp l ee ({ frames := 1, cells := 0, slots := 0, locals := 23 } : Room) ss mm args below meth cd 3 0 0 Q (Zw D vwCl (va_A wst sz) ss (wM y a (put f t 3 (z - 1)) sv ai tx sm ln th hh)) 87 [(0, .ref (a 0)), (1, .int (iZ t)), (2, .int (iZ z))] []
            rw [hQ]
            exact z_retV mx mb mr mlk hK () (by trivial) (by unfold warms near; rw [← ez, if_neg (by omega), if_pos c74]) dX5_warms_87
        · skip
          refine z_iload_n mx mb dX5_warms_60 rfl 2 rfl ?_
          refine z_iconst mx mb dX5_warms_61 ?_
          refine z_iadd mx mb dX5_warms_62 ?_
          refine z_goto (tgt := 84) mx mb dX5_warms_63 (by decide) ?_
          refine z_callV0 (As := [.int (iZ t), .int (iZ 3), .int (iZ (z + 1))]) (rest := []) ⟨mx, mb, mml, mo, mts⟩ hK hA (fun sz => c_X5_put l D sz y a f sv ai tx sm ln th hh t 3 (z + 1) (by omega)) (cwV 3 mts gX5_warms_X5_put rfl rfl rfl (by decide +kernel) ⟨Nat.le_of_ble_eq_true rfl, Nat.le_of_ble_eq_true rfl⟩) 0 wM_0 rfl rfl rfl rfl (Nat.le_of_ble_eq_true rfl) ⟨Nat.zero_le _, Nat.zero_le _⟩ dX5_warms_84 (fun u84 hu84 => ?_)
          show Gz pp l ee ({ frames := 1, cells := 0, slots := 0, locals := 23 } : Room) ss mm args below meth cd 3 0 0 Q (Zw D vwCl (va_A wst sz) ss (wM y a (put f t 3 (z + 1)) sv ai tx sm ln th hh)) 87 [(0, .ref (a 0)), (1, .int (iZ t)), (2, .int (iZ z))] []
          rw [hQ]
          exact z_retV mx mb mr mlk hK () (by trivial) (by unfold warms near; rw [← ez, if_pos c57]) dX5_warms_87
      refine z_icmp_le (tgt := 44) mx mb (by omega) (by omega) dX5_warms_36 (by decide) (fun c36 => ?_) (fun c36 => ?_)
      · skip
        refine z_iload_n mx mb dX5_warms_44 rfl 2 rfl ?_
        refine z_istore_n mx mb dX5_warms_45 rfl (by decide) [(2, .int (iZ x)), (0, .ref (a 0)), (1, .int (iZ t))] rfl ?_
        refine z_lv [1, 2, 0] rfl ?_
        exact jn46 _ (by unfold cap100; rw [← eh, if_neg (by omega)]) (by omega)
      · skip
        refine z_bipush mx mb dX5_warms_39 (by decide +kernel) ?_
        refine z_goto (tgt := 45) mx mb dX5_warms_41 (by decide) ?_
        refine z_istore_n mx mb dX5_warms_45 rfl (by decide) [(2, .int (iZ 100)), (0, .ref (a 0)), (1, .int (iZ t))] rfl ?_
        refine z_lv [1, 2, 0] rfl ?_
        exact jn46 _ (by unfold cap100; rw [← eh, if_pos (by omega)]) (by omega)
    refine z_if_ne (tgt := 30) mx mb (by omega) dX5_warms_12 (by decide) (fun c12 => ?_) (fun c12 => ?_)
    · skip
      refine z_iconst mx mb dX5_warms_30 ?_
      refine z_iadd mx mb dX5_warms_31 ?_
      refine z_istore_n mx mb dX5_warms_32 rfl (by decide) [(2, .int (iZ ((f (79 + 8 * t + 3)) + 0))), (0, .ref (a 0)), (1, .int (iZ t))] rfl ?_
      refine z_lv [1, 2, 0] rfl ?_
      exact jn33 _ (by unfold heat; rw [if_neg c12])
    · skip
      refine z_aload_n mx mb dX5_warms_15 rfl 0 rfl ?_
      refine z_iload_n mx mb dX5_warms_16 rfl 1 rfl ?_
      refine z_iconst mx mb dX5_warms_17 ?_
      refine z_callP (As := [.int (iZ t), .int (iZ 1)]) (rest := [.int (iZ (f (79 + 8 * t + 3)))]) ⟨mx, mb, mml, mo, mts⟩ hK zgw (c_X5_of l D y a f sv ai tx sm ln th hh t 1 (by omega)) (cwV 2 mts gX5_warms_X5_of rfl rfl rfl (by decide +kernel) ⟨Nat.le_of_ble_eq_true rfl, Nat.le_of_ble_eq_true rfl⟩) (fun _ h => h) 0 wM_0 rfl rfl rfl rfl (Nat.le_of_ble_eq_true rfl) ⟨Nat.zero_le _, Nat.zero_le _⟩ dX5_warms_18 ?_
      refine z_callPS (As := [.int (iZ (f (79 + 8 * t + 1)))]) (rest := [.int (iZ (f (79 + 8 * t + 3)))]) ⟨mx, mb, mml, mo, mts⟩ hK zgw (c_X5_root l D y (f (79 + 8 * t + 1)) (by omega)) (cwS 1 mts gX5_warms_X5_root rfl rfl rfl (by decide +kernel) ⟨Nat.le_of_ble_eq_true rfl, Nat.le_of_ble_eq_true rfl⟩) (fun _ h => nomatch h) rfl rfl (Nat.le_of_ble_eq_true rfl) ⟨Nat.zero_le _, Nat.zero_le _⟩ dX5_warms_21 ?_
      refine z_bipush mx mb dX5_warms_24 (by decide +kernel) ?_
      refine z_idiv mx mb (by omega) (by omega) dX5_warms_26 ?_
      refine z_goto (tgt := 31) mx mb dX5_warms_27 (by decide) ?_
      refine z_iadd mx mb dX5_warms_31 ?_
      refine z_istore_n mx mb dX5_warms_32 rfl (by decide) [(2, .int (iZ ((f (79 + 8 * t + 3)) + ((root (f (79 + 8 * t + 1))) / 10)))), (0, .ref (a 0)), (1, .int (iZ t))] rfl ?_
      refine z_lv [1, 2, 0] rfl ?_
      exact jn33 _ (by unfold heat; rw [if_pos c12])
  subst hQ
  subst hw0
  exact hstart

theorem in_X5_tick_X5 : ∀ w ∈ wsX50, w ∈ wsX5_tick := by decide +kernel
set_option maxRecDepth 100000 in
set_option maxHeartbeats 4000000 in
theorem c_X5_tick (l : Launch) (D : va_G) (sz : Nat) (y : Nat → ClassId) (a : Nat → Nat) (f sv ai tx : Int → Int) (sm ln th hh : Int) (hI : InvX f) : Met l yX5_tick wsX5_tick ({ frames := 6, cells := 0, slots := 0, locals := 138 } : Room) (zPw D vwCl (zT y) (wM y a f sv ai tx sm ln th hh) sz [.ref (a 0)]) (va_Qv (fun _ : Unit => True) (zB D vwCl (zT y) (wM y a f sv ai tx sm ln th hh) sz (fun _ : Unit => wM y a (tick f) sv ai tx sm ln th hh)) (va_A (wM y a f sv ai tx sm ln th hh) sz)) 0 0 (va_A (wM y a f sv ai tx sm ln th hh) sz) := by
  refine z_headW (cc := cX5_tick) (maxL := 2) (ret := none) [(0, .ref (a 0))] rfl (Nat.le_of_ble_eq_true rfl) (by decide +kernel) rfl ?_
  intro pp ee ss mm below meth cd mx mb mr mml mo mts mlk hK hname hsz hA
  generalize ([.ref (a 0)] : List Value).toArray = args at mts ⊢
  obtain ⟨wst, hw0⟩ : ∃ wst, wst = wM y a f sv ai tx sm ln th hh := ⟨_, rfl⟩
  have hA : ∀ q, ss.heap.size ≤ q → va_A wst sz q := by rw [hw0]; exact hA
  obtain ⟨Q, hQ⟩ : ∃ Q, Q = MQ below (va_Qv (fun _ : Unit => True) (zB D vwCl (zT y) wst sz (fun _ : Unit => wM y a (tick f) sv ai tx sm ln th hh)) (va_A wst sz)) args ss 0 0 (va_A wst sz) := ⟨_, rfl⟩
  have hstart : Gz pp l ee ({ frames := 6, cells := 0, slots := 0, locals := 138 } : Room) ss mm args below meth cd 2 0 0 Q (Zw D vwCl (va_A wst sz) ss (wM y a f sv ai tx sm ln th hh)) 0 [(0, .ref (a 0))] [] := by
    have hJ := hI.J
    obtain ⟨hW, hN, hT⟩ := hJ.f
    obtain ⟨w0, w1, w2, w3, w4, w5, w6⟩ := id hW
    obtain ⟨n3, n4, n5, n6, n7, n8, n9, n10⟩ := id hN
    refine z_iconst mx mb dX5_tick_0 ?_
    refine z_istore_n mx mb dX5_tick_1 rfl (by decide) [(1, .int (iZ 0)), (0, .ref (a 0))] rfl ?_
    have lp2 : ∀ (nn : Nat) (i : Nat) (x1 : Int) (g : Int → Int), (f 2).toNat - i < nn → ((i : Int) ≤ f 2) → (x1 = (i : Int)) → (g = steps f i) → Gz pp l ee ({ frames := 6, cells := 0, slots := 0, locals := 138 } : Room) ss mm args below meth cd 2 0 0 Q (Zw D vwCl (va_A wst sz) ss (wM y a g sv ai tx sm ln th hh)) 2 [(0, .ref (a 0)), (1, .int (iZ x1))] [] := by
      intro nn
      induction nn with
      | zero => exact fun i x1 g hm => absurd hm (Nat.not_lt_zero _)
      | succ nn ih =>
        intro i x1 g hm hi e1 eg
        obtain ⟨sj, so⟩ := steps_Jx hI i (by omega)
        rw [← eg] at sj so
        have g2 := so 2 (by omega) (by omega) (by omega) (by omega) (by omega)
        have sf := sj.f
        refine z_iload_n mx mb dX5_tick_2 rfl 1 rfl ?_
        refine z_aload_n mx mb dX5_tick_3 rfl 0 rfl ?_
        refine z_get (C := RX5) (T := TX5) (N := 8) mx mb mts (in_X5_tick_X5) mo hK zgw 0 wM_0 rfl 0 (by decide) (mts _ (List.mem_of_getElem? (i := 1) rfl)) (fun _ h9 => h9) rfl dX5_tick_4 ?_
        refine z_iconst mx mb dX5_tick_7 ?_
        refine z_iald mx mb hK zgw 1 0 wM_1 rfl (by decide) (by omega) dX5_tick_8 ?_
        refine z_icmp_ge (tgt := 55) mx mb (by omega) (by omega) dX5_tick_9 (by decide) (fun c9 => ?_) (fun c9 => ?_)
        · skip
          have hi5 : i = (f 2).toNat := by omega
          have g3 := so 3 (by omega) (by omega) (by omega) (by omega) (by omega)
          refine z_aload_n mx mb dX5_tick_55 rfl 0 rfl ?_
          refine z_get (C := RX5) (T := TX5) (N := 8) mx mb mts (in_X5_tick_X5) mo hK zgw 0 wM_0 rfl 0 (by decide) (mts _ (List.mem_of_getElem? (i := 1) rfl)) (fun _ h9 => h9) rfl dX5_tick_56 ?_
          refine z_iconst mx mb dX5_tick_59 ?_
          refine z_dup2 mx mb dX5_tick_60 rfl rfl ?_
          refine z_iald mx mb hK zgw 1 0 wM_1 rfl (by decide) (by omega) dX5_tick_61 ?_
          rw [show g 3 = f 3 from by exact g3]
          refine z_iconst mx mb dX5_tick_62 ?_
          refine z_iadd mx mb dX5_tick_63 ?_
          refine z_iast mx mb hK 1 0 wM_1 rfl (by decide) (by omega) dX5_tick_64 (wM y a (zu g 3 ((f 3) + 1)) sv ai tx sm ln th hh) wM_s1 ?_
          rw [hQ]
          exact z_retV mx mb mr mlk hK () (by trivial) (by rw [eg, hi5]; rfl) dX5_tick_65
        · skip
          have smo := (sf.1.2.2.2.2.2.2 x1 (by omega) (by omega)).2
          refine z_aload_n mx mb dX5_tick_12 rfl 0 rfl ?_
          refine z_iload_n mx mb dX5_tick_13 rfl 1 rfl ?_
          refine z_iconst mx mb dX5_tick_14 ?_
          refine z_callP (As := [.int (iZ x1), .int (iZ 4)]) (rest := []) ⟨mx, mb, mml, mo, mts⟩ hK zgw (c_X5_of l D y a g sv ai tx sm ln th hh x1 4 (by omega)) (cwV 2 mts gX5_tick_X5_of rfl rfl rfl (by decide +kernel) ⟨Nat.le_of_ble_eq_true rfl, Nat.le_of_ble_eq_true rfl⟩) (fun _ h => h) 0 wM_0 rfl rfl rfl rfl (Nat.le_of_ble_eq_true rfl) ⟨Nat.zero_le _, Nat.zero_le _⟩ dX5_tick_15 ?_
          refine z_iconst mx mb dX5_tick_18 ?_
          refine z_icmp_ne (tgt := 30) mx mb (by omega) (by omega) dX5_tick_19 (by decide) (fun c19 => ?_) (fun c19 => ?_)
          · skip
            refine z_aload_n mx mb dX5_tick_30 rfl 0 rfl ?_
            refine z_iload_n mx mb dX5_tick_31 rfl 1 rfl ?_
            refine z_iconst mx mb dX5_tick_32 ?_
            refine z_callP (As := [.int (iZ x1), .int (iZ 4)]) (rest := []) ⟨mx, mb, mml, mo, mts⟩ hK zgw (c_X5_of l D y a g sv ai tx sm ln th hh x1 4 (by omega)) (cwV 2 mts gX5_tick_X5_of rfl rfl rfl (by decide +kernel) ⟨Nat.le_of_ble_eq_true rfl, Nat.le_of_ble_eq_true rfl⟩) (fun _ h => h) 0 wM_0 rfl rfl rfl rfl (Nat.le_of_ble_eq_true rfl) ⟨Nat.zero_le _, Nat.zero_le _⟩ dX5_tick_33 ?_
            refine z_if_ne (tgt := 44) mx mb (by omega) dX5_tick_36 (by decide) (fun c36 => ?_) (fun c36 => ?_)
            · skip
              have jw : Jy g := sj.y
              refine z_aload_n mx mb dX5_tick_44 rfl 0 rfl ?_
              refine z_iload_n mx mb dX5_tick_45 rfl 1 rfl ?_
              refine z_callV0 (As := [.int (iZ x1)]) (rest := []) ⟨mx, mb, mml, mo, mts⟩ hK hA (fun sz => c_X5_warms l D sz y a g sv ai tx sm ln th hh x1 (by omega) (by assumption)) (cwV 1 mts gX5_tick_X5_warms rfl rfl rfl (by decide +kernel) ⟨Nat.le_of_ble_eq_true rfl, Nat.le_of_ble_eq_true rfl⟩) 0 wM_0 rfl rfl rfl rfl (Nat.le_of_ble_eq_true rfl) ⟨Nat.zero_le _, Nat.zero_le _⟩ dX5_tick_46 (fun u46 hu46 => ?_)
              show Gz pp l ee ({ frames := 6, cells := 0, slots := 0, locals := 138 } : Room) ss mm args below meth cd 2 0 0 Q (Zw D vwCl (va_A wst sz) ss (wM y a (warms g x1) sv ai tx sm ln th hh)) 49 [(0, .ref (a 0)), (1, .int (iZ x1))] []
              refine z_iinc mx mb dX5_tick_49 1 rfl (by decide) [(1, .int (iZ (x1 + 1))), (0, .ref (a 0))] rfl ?_
              refine z_goto (tgt := 2) mx mb dX5_tick_52 (by decide) ?_
              refine z_lv [1, 0] rfl ?_
              exact ih (i + 1) _ _ (by omega) (by omega) (by omega) (by rw [steps, ← eg, ← e1, step, if_neg c19, if_neg c36])
            · skip
              refine z_aload_n mx mb dX5_tick_39 rfl 0 rfl ?_
              refine z_iload_n mx mb dX5_tick_40 rfl 1 rfl ?_
              refine z_callV0 (As := [.int (iZ x1)]) (rest := []) ⟨mx, mb, mml, mo, mts⟩ hK hA (fun sz => c_X5_goes l D sz y a g sv ai tx sm ln th hh x1 (by omega) (by assumption) (by omega)) (cwV 1 mts gX5_tick_X5_goes rfl rfl rfl (by decide +kernel) ⟨Nat.le_of_ble_eq_true rfl, Nat.le_of_ble_eq_true rfl⟩) 0 wM_0 rfl rfl rfl rfl (Nat.le_of_ble_eq_true rfl) ⟨Nat.zero_le _, Nat.zero_le _⟩ dX5_tick_41 (fun u41 hu41 => ?_)
              show Gz pp l ee ({ frames := 6, cells := 0, slots := 0, locals := 138 } : Room) ss mm args below meth cd 2 0 0 Q (Zw D vwCl (va_A wst sz) ss (wM y a (goes g x1) sv ai tx sm ln th hh)) 44 [(0, .ref (a 0)), (1, .int (iZ x1))] []
              have jw : Jy (goes g x1) := sj.goes (by omega)
              refine z_aload_n mx mb dX5_tick_44 rfl 0 rfl ?_
              refine z_iload_n mx mb dX5_tick_45 rfl 1 rfl ?_
              refine z_callV0 (As := [.int (iZ x1)]) (rest := []) ⟨mx, mb, mml, mo, mts⟩ hK hA (fun sz => c_X5_warms l D sz y a (goes g x1) sv ai tx sm ln th hh x1 (by omega) (by assumption)) (cwV 1 mts gX5_tick_X5_warms rfl rfl rfl (by decide +kernel) ⟨Nat.le_of_ble_eq_true rfl, Nat.le_of_ble_eq_true rfl⟩) 0 wM_0 rfl rfl rfl rfl (Nat.le_of_ble_eq_true rfl) ⟨Nat.zero_le _, Nat.zero_le _⟩ dX5_tick_46 (fun u46 hu46 => ?_)
              show Gz pp l ee ({ frames := 6, cells := 0, slots := 0, locals := 138 } : Room) ss mm args below meth cd 2 0 0 Q (Zw D vwCl (va_A wst sz) ss (wM y a (warms (goes g x1) x1) sv ai tx sm ln th hh)) 49 [(0, .ref (a 0)), (1, .int (iZ x1))] []
              refine z_iinc mx mb dX5_tick_49 1 rfl (by decide) [(1, .int (iZ (x1 + 1))), (0, .ref (a 0))] rfl ?_
              refine z_goto (tgt := 2) mx mb dX5_tick_52 (by decide) ?_
              refine z_lv [1, 0] rfl ?_
              exact ih (i + 1) _ _ (by omega) (by omega) (by omega) (by rw [steps, ← eg, ← e1, step, if_neg c19, if_pos c36])
          · skip
            refine z_aload_n mx mb dX5_tick_22 rfl 0 rfl ?_
            refine z_iload_n mx mb dX5_tick_23 rfl 1 rfl ?_
            refine z_callV0 (As := [.int (iZ x1)]) (rest := []) ⟨mx, mb, mml, mo, mts⟩ hK hA (fun sz => c_X5_waits l D sz y a g sv ai tx sm ln th hh x1 (by omega) (by assumption)) (cwV 1 mts gX5_tick_X5_waits rfl rfl rfl (by decide +kernel) ⟨Nat.le_of_ble_eq_true rfl, Nat.le_of_ble_eq_true rfl⟩) 0 wM_0 rfl rfl rfl rfl (Nat.le_of_ble_eq_true rfl) ⟨Nat.zero_le _, Nat.zero_le _⟩ dX5_tick_24 (fun u24 hu24 => ?_)
            show Gz pp l ee ({ frames := 6, cells := 0, slots := 0, locals := 138 } : Room) ss mm args below meth cd 2 0 0 Q (Zw D vwCl (va_A wst sz) ss (wM y a (waits g x1) sv ai tx sm ln th hh)) 27 [(0, .ref (a 0)), (1, .int (iZ x1))] []
            refine z_goto (tgt := 44) mx mb dX5_tick_27 (by decide) ?_
            have jw : Jy (waits g x1) := sj.wait (by omega)
            refine z_aload_n mx mb dX5_tick_44 rfl 0 rfl ?_
            refine z_iload_n mx mb dX5_tick_45 rfl 1 rfl ?_
            refine z_callV0 (As := [.int (iZ x1)]) (rest := []) ⟨mx, mb, mml, mo, mts⟩ hK hA (fun sz => c_X5_warms l D sz y a (waits g x1) sv ai tx sm ln th hh x1 (by omega) (by assumption)) (cwV 1 mts gX5_tick_X5_warms rfl rfl rfl (by decide +kernel) ⟨Nat.le_of_ble_eq_true rfl, Nat.le_of_ble_eq_true rfl⟩) 0 wM_0 rfl rfl rfl rfl (Nat.le_of_ble_eq_true rfl) ⟨Nat.zero_le _, Nat.zero_le _⟩ dX5_tick_46 (fun u46 hu46 => ?_)
            show Gz pp l ee ({ frames := 6, cells := 0, slots := 0, locals := 138 } : Room) ss mm args below meth cd 2 0 0 Q (Zw D vwCl (va_A wst sz) ss (wM y a (warms (waits g x1) x1) sv ai tx sm ln th hh)) 49 [(0, .ref (a 0)), (1, .int (iZ x1))] []
            refine z_iinc mx mb dX5_tick_49 1 rfl (by decide) [(1, .int (iZ (x1 + 1))), (0, .ref (a 0))] rfl ?_
            refine z_goto (tgt := 2) mx mb dX5_tick_52 (by decide) ?_
            refine z_lv [1, 0] rfl ?_
            exact ih (i + 1) _ _ (by omega) (by omega) (by omega) (by rw [steps, ← eg, ← e1, step, if_pos c19])
    refine z_lv [1, 0] rfl ?_
    exact lp2 _ 0 0 f (Nat.lt_succ_self _) (by omega) (by rfl) (by rfl)
  subst hQ
  subst hw0
  exact hstart

set_option maxRecDepth 100000 in
set_option maxHeartbeats 4000000 in
theorem c_X5_toValley (l : Launch) (D : va_G) (sz : Nat) (y : Nat → ClassId) (a : Nat → Nat) (f sv ai tx : Int → Int) (sm ln th hh : Int) (mo_ : Int) (hm : 0 ≤ mo_ ∧ mo_ ≤ 2000) (hI : Inv 102000 f) : Met l yX5_toValley wsX5_toValley ({ frames := 7, cells := 0, slots := 0, locals := 159 } : Room) (zPw D vwCl (zT y) (wM y a f sv ai tx sm ln th hh) sz [.ref (a 0), .int (iZ mo_)]) (va_Qi (fun (r : Int32) (_ : Int → Int) => r = iZ (toValley f mo_)) (zB D vwCl (zT y) (wM y a f sv ai tx sm ln th hh) sz (fun ai' : Int → Int => wM y a f sv ai' tx sm ln th hh)) (va_A (wM y a f sv ai tx sm ln th hh) sz)) 0 0 (va_A (wM y a f sv ai tx sm ln th hh) sz) := by
  refine z_headW (cc := cX5_toValley) (maxL := 5) (ret := (some .int)) [(0, .ref (a 0)), (1, .int (iZ mo_))] rfl (Nat.le_of_ble_eq_true rfl) (by decide +kernel) rfl ?_
  intro pp ee ss mm below meth cd mx mb mr mml mo mts mlk hK hname hsz hA
  generalize ([.ref (a 0), .int (iZ mo_)] : List Value).toArray = args at mts ⊢
  obtain ⟨wst, hw0⟩ : ∃ wst, wst = wM y a f sv ai tx sm ln th hh := ⟨_, rfl⟩
  have hA : ∀ q, ss.heap.size ≤ q → va_A wst sz q := by rw [hw0]; exact hA
  obtain ⟨Q, hQ⟩ : ∃ Q, Q = MQ below (va_Qi (fun (r : Int32) (_ : Int → Int) => r = iZ (toValley f mo_)) (zB D vwCl (zT y) wst sz (fun ai' : Int → Int => wM y a f sv ai' tx sm ln th hh)) (va_A wst sz)) args ss 0 0 (va_A wst sz) := ⟨_, rfl⟩
  have hstart : Gz pp l ee ({ frames := 7, cells := 0, slots := 0, locals := 159 } : Room) ss mm args below meth cd 5 0 0 Q (Zw D vwCl (va_A wst sz) ss (wM y a f sv ai tx sm ln th hh)) 0 [(0, .ref (a 0)), (1, .int (iZ mo_))] [] := by
    have hX : InvX f := ⟨_, hI, by omega⟩
    have hJ := hX.J
    obtain ⟨hW, hN, hT⟩ := hJ.f
    obtain ⟨w0, w1, w2, w3, w4, w5, w6⟩ := id hW
    obtain ⟨n3, n4, n5, n6, n7, n8, n9, n10⟩ := id hN
    have ly0 := lyn_rng f (f 2).toNat
    refine z_aload_n mx mb dX5_toValley_0 rfl 0 rfl ?_
    refine z_callV0 (As := []) (rest := []) ⟨mx, mb, mml, mo, mts⟩ hK hA (fun sz => c_X5_laysAside l D sz y a f sv ai tx sm ln th hh  ) (cwV 0 mts gX5_toValley_X5_laysAside rfl rfl rfl (by decide +kernel) ⟨Nat.le_of_ble_eq_true rfl, Nat.le_of_ble_eq_true rfl⟩) 0 wM_0 rfl rfl rfl rfl (Nat.le_of_ble_eq_true rfl) ⟨Nat.zero_le _, Nat.zero_le _⟩ dX5_toValley_1 (fun u1 hu1 => ?_)
    show Gz pp l ee ({ frames := 7, cells := 0, slots := 0, locals := 159 } : Room) ss mm args below meth cd 5 0 0 Q (Zw D vwCl (va_A wst sz) ss (wM y a f sv (cpN ai f 171) tx sm ln th hh)) 4 [(0, .ref (a 0)), (1, .int (iZ mo_))] []
    refine z_aload_n mx mb dX5_toValley_4 rfl 0 rfl ?_
    refine z_callP (As := []) (rest := []) ⟨mx, mb, mml, mo, mts⟩ hK zgw (c_X5_lyingOnes l D y a f sv (cpN ai f 171) tx sm ln th hh  (by assumption)) (cwV 0 mts gX5_toValley_X5_lyingOnes rfl rfl rfl (by decide +kernel) ⟨Nat.le_of_ble_eq_true rfl, Nat.le_of_ble_eq_true rfl⟩) (fun _ h => h) 0 wM_0 rfl rfl rfl rfl (Nat.le_of_ble_eq_true rfl) ⟨Nat.zero_le _, Nat.zero_le _⟩ dX5_toValley_5 ?_
    refine z_istore_n mx mb dX5_toValley_8 rfl (by decide) [(2, .int (iZ (lyn f (f 2).toNat))), (0, .ref (a 0)), (1, .int (iZ mo_))] rfl ?_
    refine z_iconst mx mb dX5_toValley_9 ?_
    refine z_istore_n mx mb dX5_toValley_10 rfl (by decide) [(3, .int (iZ 0)), (2, .int (iZ (lyn f (f 2).toNat))), (0, .ref (a 0)), (1, .int (iZ mo_))] rfl ?_
    have lp11 : ∀ (nn : Nat) (i : Nat) (x3 : Int) (g : Int → Int), mo_.toNat - i < nn → ((i : Int) ≤ mo_) → (x3 = (i : Int)) → (g = ticks f i) → (stop f (lyn f (f 2).toNat) (mo_.toNat - i) i = stop f (lyn f (f 2).toNat) mo_.toNat 0) → Gz pp l ee ({ frames := 7, cells := 0, slots := 0, locals := 159 } : Room) ss mm args below meth cd 5 0 0 Q (Zw D vwCl (va_A wst sz) ss (wM y a g sv (cpN ai f 171) tx sm ln th hh)) 11 [(0, .ref (a 0)), (1, .int (iZ mo_)), (2, .int (iZ (lyn f (f 2).toNat))), (3, .int (iZ x3))] [] := by
      intro nn
      induction nn with
      | zero => exact fun i x3 g hm => absurd hm (Nat.not_lt_zero _)
      | succ nn ih =>
        intro i x3 g hm hi e1 eg hst
        have ti := (ticks_inv hI i (by omega)).2
        have tiX : InvX g := by rw [eg]; exact ticks_InvX hI i (by omega)
        have tw := tiX.J.f
        have twW := tw.1
        rw [← eg] at ti
        have g2 := ti 2 (by omega) (by omega) (by omega) (by omega) (by omega) (by omega)
        have ly := lyn_rng g (f 2).toNat
        refine z_iload_n mx mb dX5_toValley_11 rfl 3 rfl ?_
        refine z_iload_n mx mb dX5_toValley_12 rfl 1 rfl ?_
        refine z_icmp_ge (tgt := 34) mx mb (by omega) (by omega) dX5_toValley_13 (by decide) (fun c13 => ?_) (fun c13 => ?_)
        · skip
          have hs2 : stop f (lyn f (f 2).toNat) mo_.toNat 0 = i := by rw [← hst, show mo_.toNat - i = 0 by omega]; rfl
          refine z_aload_n mx mb dX5_toValley_34 rfl 0 rfl ?_
          refine z_callP (As := []) (rest := []) ⟨mx, mb, mml, mo, mts⟩ hK zgw (c_X5_lyingOnes l D y a g sv (cpN ai f 171) tx sm ln th hh  (by assumption)) (cwV 0 mts gX5_toValley_X5_lyingOnes rfl rfl rfl (by decide +kernel) ⟨Nat.le_of_ble_eq_true rfl, Nat.le_of_ble_eq_true rfl⟩) (fun _ h => h) 0 wM_0 rfl rfl rfl rfl (Nat.le_of_ble_eq_true rfl) ⟨Nat.zero_le _, Nat.zero_le _⟩ dX5_toValley_35 ?_
          rw [show lyn g (g 2).toNat = lyn g (f 2).toNat from by rw [g2]]
          refine z_iload_n mx mb dX5_toValley_38 rfl 2 rfl ?_
          have jn49 : ∀ (z : Int), (z = b2z (lyn f (f 2).toNat < lyn g (f 2).toNat)) → Gz pp l ee ({ frames := 7, cells := 0, slots := 0, locals := 159 } : Room) ss mm args below meth cd 5 0 0 Q (Zw D vwCl (va_A wst sz) ss (wM y a g sv (cpN ai f 171) tx sm ln th hh)) 49 [(0, .ref (a 0)), (1, .int (iZ mo_)), (2, .int (iZ (lyn f (f 2).toNat))), (3, .int (iZ x3)), (4, .int (iZ z))] [] := by
            intro z ez
            have hz : -2147483648 ≤ z ∧ z ≤ 2147483647 := by rw [ez]; exact b2z_rng _
            refine z_aload_n mx mb dX5_toValley_49 rfl 0 rfl ?_
            refine z_callV0 (As := []) (rest := []) ⟨mx, mb, mml, mo, mts⟩ hK hA (fun sz => c_X5_takesBack l D sz y a g sv (cpN ai f 171) tx sm ln th hh  ) (cwV 0 mts gX5_toValley_X5_takesBack rfl rfl rfl (by decide +kernel) ⟨Nat.le_of_ble_eq_true rfl, Nat.le_of_ble_eq_true rfl⟩) 0 wM_0 rfl rfl rfl rfl (Nat.le_of_ble_eq_true rfl) ⟨Nat.zero_le _, Nat.zero_le _⟩ dX5_toValley_50 (fun u50 hu50 => ?_)
            show Gz pp l ee ({ frames := 7, cells := 0, slots := 0, locals := 159 } : Room) ss mm args below meth cd 5 0 0 Q (Zw D vwCl (va_A wst sz) ss (wM y a (cpN g (cpN ai f 171) 171) sv (cpN ai f 171) tx sm ln th hh)) 53 [(0, .ref (a 0)), (1, .int (iZ mo_)), (2, .int (iZ (lyn f (f 2).toNat))), (3, .int (iZ x3)), (4, .int (iZ z))] []
            refine z_I (fun H locs q => wM_ext (g := f) (fun i i0 i1 => by rw [cpN_at _ _ _ i0, if_pos (by omega), cpN_at _ _ _ i0, if_pos (by omega)]) H locs q) ?_
            refine z_iload mx mb dX5_toValley_53 4 rfl ?_
            refine z_if_eq (tgt := 62) mx mb (by omega) dX5_toValley_55 (by decide) (fun c55 => ?_) (fun c55 => ?_)
            · skip
              refine z_iconst mx mb dX5_toValley_62 ?_
              rw [hQ]
              exact z_retI mx mb mr mlk hK (cpN ai f 171) (by show iZ _ = iZ _; congr 1; unfold toValley; rw [hs2, ← eg, if_neg (b2z_e (ez.symm.trans c55))]; first | done | omega) rfl dX5_toValley_63
            · skip
              refine z_iload_n mx mb dX5_toValley_58 rfl 3 rfl ?_
              refine z_goto (tgt := 63) mx mb dX5_toValley_59 (by decide) ?_
              rw [hQ]
              exact z_retI mx mb mr mlk hK (cpN ai f 171) (by show iZ _ = iZ _; congr 1; unfold toValley; rw [hs2, ← eg, if_pos (b2z_ne (fun q => c55 (ez.trans q)))]; first | done | omega) rfl dX5_toValley_63
          refine z_icmp_le (tgt := 46) mx mb (by omega) (by omega) dX5_toValley_39 (by decide) (fun c39 => ?_) (fun c39 => ?_)
          · skip
            refine z_iconst mx mb dX5_toValley_46 ?_
            refine z_istore mx mb dX5_toValley_47 (by decide) [(4, .int (iZ 0)), (0, .ref (a 0)), (1, .int (iZ mo_)), (2, .int (iZ (lyn f (f 2).toNat))), (3, .int (iZ x3))] rfl ?_
            refine z_lv [1, 2, 3, 4, 0] rfl ?_
            exact jn49 _ (by exact (b2z_f (by omega)).symm)
          · skip
            refine z_iconst mx mb dX5_toValley_42 ?_
            refine z_goto (tgt := 47) mx mb dX5_toValley_43 (by decide) ?_
            refine z_istore mx mb dX5_toValley_47 (by decide) [(4, .int (iZ 1)), (0, .ref (a 0)), (1, .int (iZ mo_)), (2, .int (iZ (lyn f (f 2).toNat))), (3, .int (iZ x3))] rfl ?_
            refine z_lv [1, 2, 3, 4, 0] rfl ?_
            exact jn49 _ (by exact (b2z_t c39).symm)
        · skip
          refine z_aload_n mx mb dX5_toValley_16 rfl 0 rfl ?_
          refine z_callP (As := []) (rest := []) ⟨mx, mb, mml, mo, mts⟩ hK zgw (c_X5_lyingOnes l D y a g sv (cpN ai f 171) tx sm ln th hh  (by assumption)) (cwV 0 mts gX5_toValley_X5_lyingOnes rfl rfl rfl (by decide +kernel) ⟨Nat.le_of_ble_eq_true rfl, Nat.le_of_ble_eq_true rfl⟩) (fun _ h => h) 0 wM_0 rfl rfl rfl rfl (Nat.le_of_ble_eq_true rfl) ⟨Nat.zero_le _, Nat.zero_le _⟩ dX5_toValley_17 ?_
          rw [show lyn g (g 2).toNat = lyn g (f 2).toNat from by rw [g2]]
          refine z_iload_n mx mb dX5_toValley_20 rfl 2 rfl ?_
          refine z_icmp_ne (tgt := 34) mx mb (by omega) (by omega) dX5_toValley_21 (by decide) (fun c21 => ?_) (fun c21 => ?_)
          · skip
            have hs2 : stop f (lyn f (f 2).toNat) mo_.toNat 0 = i := by rw [← hst, show mo_.toNat - i = (mo_.toNat - (i + 1)) + 1 by omega, stop, ← eg, if_neg c21]
            refine z_aload_n mx mb dX5_toValley_34 rfl 0 rfl ?_
            refine z_callP (As := []) (rest := []) ⟨mx, mb, mml, mo, mts⟩ hK zgw (c_X5_lyingOnes l D y a g sv (cpN ai f 171) tx sm ln th hh  (by assumption)) (cwV 0 mts gX5_toValley_X5_lyingOnes rfl rfl rfl (by decide +kernel) ⟨Nat.le_of_ble_eq_true rfl, Nat.le_of_ble_eq_true rfl⟩) (fun _ h => h) 0 wM_0 rfl rfl rfl rfl (Nat.le_of_ble_eq_true rfl) ⟨Nat.zero_le _, Nat.zero_le _⟩ dX5_toValley_35 ?_
            rw [show lyn g (g 2).toNat = lyn g (f 2).toNat from by rw [g2]]
            refine z_iload_n mx mb dX5_toValley_38 rfl 2 rfl ?_
            have jn49 : ∀ (z : Int), (z = b2z (lyn f (f 2).toNat < lyn g (f 2).toNat)) → Gz pp l ee ({ frames := 7, cells := 0, slots := 0, locals := 159 } : Room) ss mm args below meth cd 5 0 0 Q (Zw D vwCl (va_A wst sz) ss (wM y a g sv (cpN ai f 171) tx sm ln th hh)) 49 [(0, .ref (a 0)), (1, .int (iZ mo_)), (2, .int (iZ (lyn f (f 2).toNat))), (3, .int (iZ x3)), (4, .int (iZ z))] [] := by
              intro z ez
              have hz : -2147483648 ≤ z ∧ z ≤ 2147483647 := by rw [ez]; exact b2z_rng _
              refine z_aload_n mx mb dX5_toValley_49 rfl 0 rfl ?_
              refine z_callV0 (As := []) (rest := []) ⟨mx, mb, mml, mo, mts⟩ hK hA (fun sz => c_X5_takesBack l D sz y a g sv (cpN ai f 171) tx sm ln th hh  ) (cwV 0 mts gX5_toValley_X5_takesBack rfl rfl rfl (by decide +kernel) ⟨Nat.le_of_ble_eq_true rfl, Nat.le_of_ble_eq_true rfl⟩) 0 wM_0 rfl rfl rfl rfl (Nat.le_of_ble_eq_true rfl) ⟨Nat.zero_le _, Nat.zero_le _⟩ dX5_toValley_50 (fun u50 hu50 => ?_)
              show Gz pp l ee ({ frames := 7, cells := 0, slots := 0, locals := 159 } : Room) ss mm args below meth cd 5 0 0 Q (Zw D vwCl (va_A wst sz) ss (wM y a (cpN g (cpN ai f 171) 171) sv (cpN ai f 171) tx sm ln th hh)) 53 [(0, .ref (a 0)), (1, .int (iZ mo_)), (2, .int (iZ (lyn f (f 2).toNat))), (3, .int (iZ x3)), (4, .int (iZ z))] []
              refine z_I (fun H locs q => wM_ext (g := f) (fun i i0 i1 => by rw [cpN_at _ _ _ i0, if_pos (by omega), cpN_at _ _ _ i0, if_pos (by omega)]) H locs q) ?_
              refine z_iload mx mb dX5_toValley_53 4 rfl ?_
              refine z_if_eq (tgt := 62) mx mb (by omega) dX5_toValley_55 (by decide) (fun c55 => ?_) (fun c55 => ?_)
              · skip
                refine z_iconst mx mb dX5_toValley_62 ?_
                rw [hQ]
                exact z_retI mx mb mr mlk hK (cpN ai f 171) (by show iZ _ = iZ _; congr 1; unfold toValley; rw [hs2, ← eg, if_neg (b2z_e (ez.symm.trans c55))]; first | done | omega) rfl dX5_toValley_63
              · skip
                refine z_iload_n mx mb dX5_toValley_58 rfl 3 rfl ?_
                refine z_goto (tgt := 63) mx mb dX5_toValley_59 (by decide) ?_
                rw [hQ]
                exact z_retI mx mb mr mlk hK (cpN ai f 171) (by show iZ _ = iZ _; congr 1; unfold toValley; rw [hs2, ← eg, if_pos (b2z_ne (fun q => c55 (ez.trans q)))]; first | done | omega) rfl dX5_toValley_63
            refine z_icmp_le (tgt := 46) mx mb (by omega) (by omega) dX5_toValley_39 (by decide) (fun c39 => ?_) (fun c39 => ?_)
            · skip
              refine z_iconst mx mb dX5_toValley_46 ?_
              refine z_istore mx mb dX5_toValley_47 (by decide) [(4, .int (iZ 0)), (0, .ref (a 0)), (1, .int (iZ mo_)), (2, .int (iZ (lyn f (f 2).toNat))), (3, .int (iZ x3))] rfl ?_
              refine z_lv [1, 2, 3, 4, 0] rfl ?_
              exact jn49 _ (by exact (b2z_f (by omega)).symm)
            · skip
              refine z_iconst mx mb dX5_toValley_42 ?_
              refine z_goto (tgt := 47) mx mb dX5_toValley_43 (by decide) ?_
              refine z_istore mx mb dX5_toValley_47 (by decide) [(4, .int (iZ 1)), (0, .ref (a 0)), (1, .int (iZ mo_)), (2, .int (iZ (lyn f (f 2).toNat))), (3, .int (iZ x3))] rfl ?_
              refine z_lv [1, 2, 3, 4, 0] rfl ?_
              exact jn49 _ (by exact (b2z_t c39).symm)
          · skip
            refine z_aload_n mx mb dX5_toValley_24 rfl 0 rfl ?_
            refine z_callV0 (As := []) (rest := []) ⟨mx, mb, mml, mo, mts⟩ hK hA (fun sz => c_X5_tick l D sz y a g sv (cpN ai f 171) tx sm ln th hh  (by assumption)) (cwV 0 mts gX5_toValley_X5_tick rfl rfl rfl (by decide +kernel) ⟨Nat.le_of_ble_eq_true rfl, Nat.le_of_ble_eq_true rfl⟩) 0 wM_0 rfl rfl rfl rfl (Nat.le_of_ble_eq_true rfl) ⟨Nat.zero_le _, Nat.zero_le _⟩ dX5_toValley_25 (fun u25 hu25 => ?_)
            show Gz pp l ee ({ frames := 7, cells := 0, slots := 0, locals := 159 } : Room) ss mm args below meth cd 5 0 0 Q (Zw D vwCl (va_A wst sz) ss (wM y a (tick g) sv (cpN ai f 171) tx sm ln th hh)) 28 [(0, .ref (a 0)), (1, .int (iZ mo_)), (2, .int (iZ (lyn f (f 2).toNat))), (3, .int (iZ x3))] []
            refine z_iinc mx mb dX5_toValley_28 3 rfl (by decide) [(3, .int (iZ (x3 + 1))), (0, .ref (a 0)), (1, .int (iZ mo_)), (2, .int (iZ (lyn f (f 2).toNat)))] rfl ?_
            refine z_goto (tgt := 11) mx mb dX5_toValley_31 (by decide) ?_
            refine z_lv [1, 2, 3, 0] rfl ?_
            exact ih (i + 1) _ _ (by omega) (by omega) (by omega) (by rw [eg]; rfl) (by rw [← hst, show mo_.toNat - i = (mo_.toNat - (i + 1)) + 1 by omega, stop, ← eg, if_pos c21])
    refine z_lv [2, 3, 1, 0] rfl ?_
    exact lp11 _ 0 0 f (Nat.lt_succ_self _) (by omega) (by rfl) (by rfl) (by rfl)
  subst hQ
  subst hw0
  exact hstart
