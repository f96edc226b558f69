theorem c_X4_hashWith (l : Launch) (D : va_G) (y : Nat → ClassId) (u v : Int) : Met l yX4_hashWith wsX4_hashWith ({ frames := 0, cells := 0, slots := 0, locals := 0 } : Room) (zPp D vwCl (zT y) [] [.long (lZ u), .long (lZ v)]) (vp_Sl (fun r => r = lZ (31 * u + v))) 0 0 (fun _ => False) := by
  refine z_headP (cc := cX4_hashWith) (maxL := 4) (ret := some .long) [(0, .long (lZ u)), (2, .long (lZ v))] rfl (Nat.le_of_ble_eq_true rfl) (by decide +kernel) rfl ?_
  intro pp ee ss mm below meth cd mx mb mr mml mo mts mlk hK hP
  generalize ([.long (lZ u), .long (lZ v)] : List Value).toArray = args at mts ⊢
  refine z_ldc2 (z := 31) mx mb mo (mts _ (List.mem_of_getElem? (i := 1) rfl)) (by decide +kernel) dX4_hashWith_0 ?_
  refine z_lload_n mx mb dX4_hashWith_3 rfl 0 rfl ?_
  refine z_lmul mx mb dX4_hashWith_4 ?_
  refine z_lload_n mx mb dX4_hashWith_5 rfl 1 rfl ?_
  refine z_ladd mx mb dX4_hashWith_6 ?_
  exact z_lretP mx mb mr mlk rfl dX4_hashWith_7

theorem in_X4_hashOfCells_X0 : ∀ w ∈ wsX00, w ∈ wsX4_hashOfCells := by decide +kernel
theorem in_X4_hashOfCells_X1 : ∀ w ∈ wsX10, w ∈ wsX4_hashOfCells := by decide +kernel
theorem in_X4_hashOfCells_X4 : ∀ w ∈ wsX40, w ∈ wsX4_hashOfCells := by decide +kernel
set_option maxRecDepth 100000 in
set_option maxHeartbeats 4000000 in
theorem c_X4_hashOfCells (l : Launch) (D : va_G) (sz : Nat) (y : Nat → ClassId) (o : Nat → Nat) (a : Nat → Nat → Nat) (S : Nat → Nat → Int → Int) (tb : Nat → Nat) (x : Int → Int) (ln sc : Int) (f : Int → Int) (h : Int) (hR : Rel f (S 0)) (hI : Inv 100000 f) (kp : Kp f) : Met l yX4_hashOfCells wsX4_hashOfCells ({ frames := 2, cells := 0, slots := 0, locals := 44 } : Room) (zPw D vwCl (zT y) (wBq y o a S tb x ln sc (sav a) p6) sz [.ref (o 0), .long (lZ h)]) (va_Ql (fun (r : Int64) (_ : Unit) => r = lZ (dgC f h)) (zB D vwCl (zT y) (wBq y o a S tb x ln sc (sav a) p6) sz (fun _ : Unit => wBq y o a S tb x ln sc (sav a) p6)) (va_A (wBq y o a S tb x ln sc (sav a) p6) sz)) 0 0 (va_A (wBq y o a S tb x ln sc (sav a) p6) sz) := by
  refine z_headW (cc := cX4_hashOfCells) (maxL := 7) (ret := (some .long)) [(0, .ref (o 0)), (1, .long (lZ h))] rfl (Nat.le_of_ble_eq_true rfl) (by decide +kernel) rfl ?_
  intro pp ee ss mm below meth cd mx mb mr mml mo mts mlk hK hname hsz hA
  generalize ([.ref (o 0), .long (lZ h)] : List Value).toArray = args at mts ⊢
  obtain ⟨wst, hw0⟩ : ∃ wst, wst = wBq y o a S tb x ln sc (sav a) p6 := ⟨_, rfl⟩
  have hA : ∀ q, ss.heap.size ≤ q → va_A wst sz q := by rw [hw0]; exact hA
  obtain ⟨Q, hQ⟩ : ∃ Q, Q = MQ below (va_Ql (fun (r : Int64) (_ : Unit) => r = lZ (dgC f h)) (zB D vwCl (zT y) wst sz (fun _ : Unit => wBq y o a S tb x ln sc (sav a) p6)) (va_A wst sz)) args ss 0 0 (va_A wst sz) := ⟨_, rfl⟩
  have hstart : Gz pp l ee ({ frames := 2, cells := 0, slots := 0, locals := 44 } : Room) ss mm args below meth cd 7 0 0 Q (Zw D vwCl (va_A wst sz) ss (wBq y o a S tb x ln sc (sav a) p6)) 0 [(0, .ref (o 0)), (1, .long (lZ h))] [] := by
    obtain ⟨hW, hN, hT⟩ := (Inv_Jy hI).f
    obtain ⟨w0, w1, w2, w3, w4, w5, w6⟩ := id hW
    obtain ⟨n3, n4, n5, n6, n7, n8, n9, n10⟩ := id hN
    obtain ⟨⟨r0, r1, r2, r3, r4⟩, rc, rb, ⟨s0, s1, s2, s3⟩, rt, rl⟩ := id hR
    obtain ⟨kA, hG, hS9⟩ := id kp
    refine z_lload_n mx mb dX4_hashOfCells_0 rfl 1 rfl ?_
    refine z_lstore_n mx mb dX4_hashOfCells_1 rfl (by decide) [(3, .long (lZ h)), (0, .ref (o 0)), (1, .long (lZ h))] rfl ?_
    refine z_iconst mx mb dX4_hashOfCells_2 ?_
    refine z_istore mx mb dX4_hashOfCells_3 (by decide) [(5, .int (iZ 0)), (3, .long (lZ h)), (0, .ref (o 0)), (1, .long (lZ h))] rfl ?_
    have lp5 : ∀ (nn : Nat) (c : Nat) (x5 hx : Int), (f 0).toNat - c < nn → ((c : Int) ≤ f 0) → (x5 = (c : Int)) → (hx = hgo (hCell f) h (4 * c)) → Gz pp l ee ({ frames := 2, cells := 0, slots := 0, locals := 44 } : Room) ss mm args below meth cd 7 0 0 Q (Zw D vwCl (va_A wst sz) ss (wBq y o a S tb x ln sc (sav a) p6)) 5 [(0, .ref (o 0)), (1, .long (lZ h)), (3, .long (lZ hx)), (5, .int (iZ x5))] [] := by
      intro nn
      induction nn with
      | zero => exact fun c x5 hx hm => absurd hm (Nat.not_lt_zero _)
      | succ nn ih =>
        intro c x5 hx hm hi e5 eh
        refine z_iload mx mb dX4_hashOfCells_5 3 rfl ?_
        refine z_aload_n mx mb dX4_hashOfCells_7 rfl 0 rfl ?_
        refine z_get (C := RX4) (T := TX4) (N := 5) mx mb mts (in_X4_hashOfCells_X4) mo hK zgw 0 wB_0 rfl 0 (by decide) (mts _ (List.mem_of_getElem? (i := 1) rfl)) (fun _ h9 => h9) rfl dX4_hashOfCells_8 ?_
        refine z_get (C := RX0) (T := TX0) (N := 9) mx mb mts (in_X4_hashOfCells_X0) mo hK zgw (4 + 15 * 0 + 0) ((wB_get 0 0 (by omega) (by omega)).trans wR_0) rfl 0 (by decide) (mts _ (List.mem_of_getElem? (i := 2) rfl)) (fun _ h9 => h9) rfl dX4_hashOfCells_11 ?_
        refine z_get (C := RX1) (T := TX1) (N := 6) mx mb mts (in_X4_hashOfCells_X1) mo hK zgw (4 + 15 * 0 + 1) ((wB_get 0 1 (by omega) (by omega)).trans wR_1) rfl 4 (by decide) (mts _ (List.mem_of_getElem? (i := 3) rfl)) (fun _ h9 => h9) rfl dX4_hashOfCells_14 ?_
        refine z_top (show (S 0) 1 0 = f 0 from by exact r0) ?_
        refine z_icmp_ge (tgt := 55) mx mb (by omega) (by omega) dX4_hashOfCells_17 (by decide) (fun c17 => ?_) (fun c17 => ?_)
        · skip
          have hc2 : c = (f 0).toNat := by omega
          refine z_lload_n mx mb dX4_hashOfCells_55 rfl 2 rfl ?_
          rw [hQ]
          exact z_retL mx mb mr mlk hK () (by rw [eh, hc2]; rfl) rfl dX4_hashOfCells_56
        · skip
          refine z_iconst mx mb dX4_hashOfCells_20 ?_
          refine z_istore mx mb dX4_hashOfCells_21 (by decide) [(6, .int (iZ 0)), (0, .ref (o 0)), (1, .long (lZ h)), (3, .long (lZ hx)), (5, .int (iZ x5))] rfl ?_
          have lp23 : ∀ (nn : Nat) (j : Nat) (x6 hy : Int), 4 - j < nn → (j ≤ 4) → (x6 = (j : Int)) → (hy = hgo (hCell f) h (4 * c + j)) → Gz pp l ee ({ frames := 2, cells := 0, slots := 0, locals := 44 } : Room) ss mm args below meth cd 7 0 0 Q (Zw D vwCl (va_A wst sz) ss (wBq y o a S tb x ln sc (sav a) p6)) 23 [(0, .ref (o 0)), (1, .long (lZ h)), (3, .long (lZ hy)), (5, .int (iZ x5)), (6, .int (iZ x6))] [] := by
            intro nn
            induction nn with
            | zero => exact fun j x6 hy hm => absurd hm (Nat.not_lt_zero _)
            | succ nn ih23 =>
              intro j x6 hy hm hj e6 eh2
              refine z_iload mx mb dX4_hashOfCells_23 4 rfl ?_
              refine z_iconst mx mb dX4_hashOfCells_25 ?_
              refine z_icmp_ge (tgt := 49) mx mb (by omega) (by omega) dX4_hashOfCells_26 (by decide) (fun c26 => ?_) (fun c26 => ?_)
              · skip
                have hj2 : j = 4 := by omega
                refine z_iinc mx mb dX4_hashOfCells_49 3 rfl (by decide) [(5, .int (iZ (x5 + 1))), (0, .ref (o 0)), (1, .long (lZ h)), (3, .long (lZ hy)), (6, .int (iZ x6))] rfl ?_
                refine z_goto (tgt := 5) mx mb dX4_hashOfCells_52 (by decide) ?_
                refine z_lv [1, 2, 3, 0] rfl ?_
                exact ih (c + 1) _ _ (by omega) (by omega) (by omega) (by rw [eh2, show 4 * (c + 1) = 4 * c + j by omega])
              · skip
                refine z_lload_n mx mb dX4_hashOfCells_29 rfl 2 rfl ?_
                refine z_aload_n mx mb dX4_hashOfCells_30 rfl 0 rfl ?_
                refine z_iload mx mb dX4_hashOfCells_31 3 rfl ?_
                refine z_top (show x5 = (c : Int) from by exact e5) ?_
                refine z_iload mx mb dX4_hashOfCells_33 4 rfl ?_
                refine z_top (show x6 = (j : Int) from by exact e6) ?_
                refine z_callI0 (As := [.int (iZ (c : Int)), .int (iZ (j : Int))]) (rest := [.long (lZ hy)]) ⟨mx, mb, mml, mo, mts⟩ hK hA (fun sz => c_X4_cell l D sz y o a S tb x ln sc f (c : Int) (j : Int) hR hI kp (by omega) (by omega)) (cwV 2 mts gX4_hashOfCells_X4_cell rfl rfl rfl (by decide +kernel) ⟨Nat.le_of_ble_eq_true rfl, Nat.le_of_ble_eq_true rfl⟩) 0 wB_0 rfl rfl rfl rfl (Nat.le_of_ble_eq_true rfl) ⟨Nat.zero_le _, Nat.zero_le _⟩ dX4_hashOfCells_35 (fun r35 u35 hu35 => ?_)
                obtain rfl : r35 = iZ (cellOf f (c : Int) (j : Int)) := hu35
                show Gz pp l ee ({ frames := 2, cells := 0, slots := 0, locals := 44 } : Room) ss mm args below meth cd 7 0 0 Q (Zw D vwCl (va_A wst sz) ss (wBq y o a S tb x ln sc (sav a) p6)) 38 [(0, .ref (o 0)), (1, .long (lZ h)), (3, .long (lZ hy)), (5, .int (iZ x5)), (6, .int (iZ x6))] [.int (iZ (cellOf f (c : Int) (j : Int))), .long (lZ hy)]
                refine z_top (show cellOf f (c : Int) (j : Int) = hCell f (4 * c + j) from by unfold hCell; rw [show ((4 * c + j : Nat) : Int) / 4 = (c : Int) by omega, show ((4 * c + j : Nat) : Int) % 4 = (j : Int) by omega]) ?_
                refine z_i2lw mx mb dX4_hashOfCells_38 ?_
                refine z_callPSl (As := [.long (lZ hy), .long (lZ (wz (hCell f (4 * c + j))))]) (rest := []) ⟨mx, mb, mml, mo, mts⟩ hK zgw (c_X4_hashWith l D y hy (wz (hCell f (4 * c + j)))) (cwS 2 mts gX4_hashOfCells_X4_hashWith rfl rfl rfl (by decide +kernel) ⟨Nat.le_of_ble_eq_true rfl, Nat.le_of_ble_eq_true rfl⟩) (fun _ h => nomatch h) rfl rfl (Nat.le_of_ble_eq_true rfl) ⟨Nat.zero_le _, Nat.zero_le _⟩ dX4_hashOfCells_39 ?_
                refine z_lstore_n mx mb dX4_hashOfCells_42 rfl (by decide) [(3, .long (lZ (31 * hy + (wz (hCell f (4 * c + j)))))), (0, .ref (o 0)), (1, .long (lZ h)), (5, .int (iZ x5)), (6, .int (iZ x6))] rfl ?_
                refine z_iinc mx mb dX4_hashOfCells_43 4 rfl (by decide) [(6, .int (iZ (x6 + 1))), (3, .long (lZ (31 * hy + (wz (hCell f (4 * c + j)))))), (0, .ref (o 0)), (1, .long (lZ h)), (5, .int (iZ x5))] rfl ?_
                refine z_goto (tgt := 23) mx mb dX4_hashOfCells_46 (by decide) ?_
                refine z_lv [2, 3, 1, 4, 0] rfl ?_
                exact ih23 (j + 1) _ _ (by omega) (by omega) (by omega) (by rw [eh2]; rfl)
          refine z_lv [1, 2, 3, 4, 0] rfl ?_
          exact lp23 _ 0 0 _ (Nat.lt_succ_self _) (by omega) (by rfl) (by rw [eh]; rfl)
    refine z_lv [2, 3, 1, 0] rfl ?_
    exact lp5 _ 0 0 h (Nat.lt_succ_self _) (by omega) (by rfl) (by rfl)
  subst hQ
  subst hw0
  exact hstart

theorem in_X4_hashOfBlocks_X0 : ∀ w ∈ wsX00, w ∈ wsX4_hashOfBlocks := by decide +kernel
theorem in_X4_hashOfBlocks_X1 : ∀ w ∈ wsX10, w ∈ wsX4_hashOfBlocks := by decide +kernel
theorem in_X4_hashOfBlocks_X4 : ∀ w ∈ wsX40, w ∈ wsX4_hashOfBlocks := by decide +kernel
set_option maxRecDepth 100000 in
set_option maxHeartbeats 4000000 in
theorem c_X4_hashOfBlocks (l : Launch) (D : va_G) (sz : Nat) (y : Nat → ClassId) (o : Nat → Nat) (a : Nat → Nat → Nat) (S : Nat → Nat → Int → Int) (tb : Nat → Nat) (x : Int → Int) (ln sc : Int) (f : Int → Int) (h : Int) (hR : Rel f (S 0)) (hI : Inv 100000 f) (kp : Kp f) : Met l yX4_hashOfBlocks wsX4_hashOfBlocks ({ frames := 3, cells := 0, slots := 0, locals := 65 } : Room) (zPw D vwCl (zT y) (wBq y o a S tb x ln sc (sav a) p6) sz [.ref (o 0), .long (lZ h)]) (va_Ql (fun (r : Int64) (_ : Unit) => r = lZ (dgB f h)) (zB D vwCl (zT y) (wBq y o a S tb x ln sc (sav a) p6) sz (fun _ : Unit => wBq y o a S tb x ln sc (sav a) p6)) (va_A (wBq y o a S tb x ln sc (sav a) p6) sz)) 0 0 (va_A (wBq y o a S tb x ln sc (sav a) p6) sz) := by
  refine z_headW (cc := cX4_hashOfBlocks) (maxL := 7) (ret := (some .long)) [(0, .ref (o 0)), (1, .long (lZ h))] rfl (Nat.le_of_ble_eq_true rfl) (by decide +kernel) rfl ?_
  intro pp ee ss mm below meth cd mx mb mr mml mo mts mlk hK hname hsz hA
  generalize ([.ref (o 0), .long (lZ h)] : List Value).toArray = args at mts ⊢
  obtain ⟨wst, hw0⟩ : ∃ wst, wst = wBq y o a S tb x ln sc (sav a) p6 := ⟨_, rfl⟩
  have hA : ∀ q, ss.heap.size ≤ q → va_A wst sz q := by rw [hw0]; exact hA
  obtain ⟨Q, hQ⟩ : ∃ Q, Q = MQ below (va_Ql (fun (r : Int64) (_ : Unit) => r = lZ (dgB f h)) (zB D vwCl (zT y) wst sz (fun _ : Unit => wBq y o a S tb x ln sc (sav a) p6)) (va_A wst sz)) args ss 0 0 (va_A wst sz) := ⟨_, rfl⟩
  have hstart : Gz pp l ee ({ frames := 3, cells := 0, slots := 0, locals := 65 } : Room) ss mm args below meth cd 7 0 0 Q (Zw D vwCl (va_A wst sz) ss (wBq y o a S tb x ln sc (sav a) p6)) 0 [(0, .ref (o 0)), (1, .long (lZ h))] [] := by
    obtain ⟨hW, hN, hT⟩ := (Inv_Jy hI).f
    obtain ⟨w0, w1, w2, w3, w4, w5, w6⟩ := id hW
    obtain ⟨n3, n4, n5, n6, n7, n8, n9, n10⟩ := id hN
    obtain ⟨⟨r0, r1, r2, r3, r4⟩, rc, rb, ⟨s0, s1, s2, s3⟩, rt, rl⟩ := id hR
    obtain ⟨kA, hG, hS9⟩ := id kp
    refine z_lload_n mx mb dX4_hashOfBlocks_0 rfl 1 rfl ?_
    refine z_lstore_n mx mb dX4_hashOfBlocks_1 rfl (by decide) [(3, .long (lZ h)), (0, .ref (o 0)), (1, .long (lZ h))] rfl ?_
    refine z_iconst mx mb dX4_hashOfBlocks_2 ?_
    refine z_istore mx mb dX4_hashOfBlocks_3 (by decide) [(5, .int (iZ 0)), (3, .long (lZ h)), (0, .ref (o 0)), (1, .long (lZ h))] rfl ?_
    have lp5 : ∀ (nn : Nat) (c : Nat) (x5 hx : Int), (f 1).toNat - c < nn → ((c : Int) ≤ f 1) → (x5 = (c : Int)) → (hx = hgo (hBlk f) h (5 * c)) → Gz pp l ee ({ frames := 3, cells := 0, slots := 0, locals := 65 } : Room) ss mm args below meth cd 7 0 0 Q (Zw D vwCl (va_A wst sz) ss (wBq y o a S tb x ln sc (sav a) p6)) 5 [(0, .ref (o 0)), (1, .long (lZ h)), (3, .long (lZ hx)), (5, .int (iZ x5))] [] := by
      intro nn
      induction nn with
      | zero => exact fun c x5 hx hm => absurd hm (Nat.not_lt_zero _)
      | succ nn ih =>
        intro c x5 hx hm hi e5 eh
        refine z_iload mx mb dX4_hashOfBlocks_5 3 rfl ?_
        refine z_aload_n mx mb dX4_hashOfBlocks_7 rfl 0 rfl ?_
        refine z_get (C := RX4) (T := TX4) (N := 5) mx mb mts (in_X4_hashOfBlocks_X4) mo hK zgw 0 wB_0 rfl 0 (by decide) (mts _ (List.mem_of_getElem? (i := 1) rfl)) (fun _ h9 => h9) rfl dX4_hashOfBlocks_8 ?_
        refine z_get (C := RX0) (T := TX0) (N := 9) mx mb mts (in_X4_hashOfBlocks_X0) mo hK zgw (4 + 15 * 0 + 0) ((wB_get 0 0 (by omega) (by omega)).trans wR_0) rfl 0 (by decide) (mts _ (List.mem_of_getElem? (i := 2) rfl)) (fun _ h9 => h9) rfl dX4_hashOfBlocks_11 ?_
        refine z_get (C := RX1) (T := TX1) (N := 6) mx mb mts (in_X4_hashOfBlocks_X1) mo hK zgw (4 + 15 * 0 + 1) ((wB_get 0 1 (by omega) (by omega)).trans wR_1) rfl 5 (by decide) (mts _ (List.mem_of_getElem? (i := 3) rfl)) (fun _ h9 => h9) rfl dX4_hashOfBlocks_14 ?_
        refine z_top (show (S 0) 1 1 = f 1 from by exact r1) ?_
        refine z_icmp_ge (tgt := 55) mx mb (by omega) (by omega) dX4_hashOfBlocks_17 (by decide) (fun c17 => ?_) (fun c17 => ?_)
        · skip
          have hc2 : c = (f 1).toNat := by omega
          refine z_lload_n mx mb dX4_hashOfBlocks_55 rfl 2 rfl ?_
          rw [hQ]
          exact z_retL mx mb mr mlk hK () (by rw [eh, hc2]; rfl) rfl dX4_hashOfBlocks_56
        · skip
          refine z_iconst mx mb dX4_hashOfBlocks_20 ?_
          refine z_istore mx mb dX4_hashOfBlocks_21 (by decide) [(6, .int (iZ 0)), (0, .ref (o 0)), (1, .long (lZ h)), (3, .long (lZ hx)), (5, .int (iZ x5))] rfl ?_
          have lp23 : ∀ (nn : Nat) (j : Nat) (x6 hy : Int), 5 - j < nn → (j ≤ 5) → (x6 = (j : Int)) → (hy = hgo (hBlk f) h (5 * c + j)) → Gz pp l ee ({ frames := 3, cells := 0, slots := 0, locals := 65 } : Room) ss mm args below meth cd 7 0 0 Q (Zw D vwCl (va_A wst sz) ss (wBq y o a S tb x ln sc (sav a) p6)) 23 [(0, .ref (o 0)), (1, .long (lZ h)), (3, .long (lZ hy)), (5, .int (iZ x5)), (6, .int (iZ x6))] [] := by
            intro nn
            induction nn with
            | zero => exact fun j x6 hy hm => absurd hm (Nat.not_lt_zero _)
            | succ nn ih23 =>
              intro j x6 hy hm hj e6 eh2
              refine z_iload mx mb dX4_hashOfBlocks_23 4 rfl ?_
              refine z_iconst mx mb dX4_hashOfBlocks_25 ?_
              refine z_icmp_ge (tgt := 49) mx mb (by omega) (by omega) dX4_hashOfBlocks_26 (by decide) (fun c26 => ?_) (fun c26 => ?_)
              · skip
                have hj2 : j = 5 := by omega
                refine z_iinc mx mb dX4_hashOfBlocks_49 3 rfl (by decide) [(5, .int (iZ (x5 + 1))), (0, .ref (o 0)), (1, .long (lZ h)), (3, .long (lZ hy)), (6, .int (iZ x6))] rfl ?_
                refine z_goto (tgt := 5) mx mb dX4_hashOfBlocks_52 (by decide) ?_
                refine z_lv [1, 2, 3, 0] rfl ?_
                exact ih (c + 1) _ _ (by omega) (by omega) (by omega) (by rw [eh2, show 5 * (c + 1) = 5 * c + j by omega])
              · skip
                refine z_lload_n mx mb dX4_hashOfBlocks_29 rfl 2 rfl ?_
                refine z_aload_n mx mb dX4_hashOfBlocks_30 rfl 0 rfl ?_
                refine z_iload mx mb dX4_hashOfBlocks_31 3 rfl ?_
                refine z_top (show x5 = (c : Int) from by exact e5) ?_
                refine z_iload mx mb dX4_hashOfBlocks_33 4 rfl ?_
                refine z_top (show x6 = (j : Int) from by exact e6) ?_
                refine z_callI0 (As := [.int (iZ (c : Int)), .int (iZ (j : Int))]) (rest := [.long (lZ hy)]) ⟨mx, mb, mml, mo, mts⟩ hK hA (fun sz => c_X4_block l D sz y o a S tb x ln sc f (c : Int) (j : Int) hR hI kp (by omega) (by omega)) (cwV 2 mts gX4_hashOfBlocks_X4_block rfl rfl rfl (by decide +kernel) ⟨Nat.le_of_ble_eq_true rfl, Nat.le_of_ble_eq_true rfl⟩) 0 wB_0 rfl rfl rfl rfl (Nat.le_of_ble_eq_true rfl) ⟨Nat.zero_le _, Nat.zero_le _⟩ dX4_hashOfBlocks_35 (fun r35 u35 hu35 => ?_)
                obtain rfl : r35 = iZ (blockOf f (c : Int) (j : Int)) := hu35
                show Gz pp l ee ({ frames := 3, cells := 0, slots := 0, locals := 65 } : Room) ss mm args below meth cd 7 0 0 Q (Zw D vwCl (va_A wst sz) ss (wBq y o a S tb x ln sc (sav a) p6)) 38 [(0, .ref (o 0)), (1, .long (lZ h)), (3, .long (lZ hy)), (5, .int (iZ x5)), (6, .int (iZ x6))] [.int (iZ (blockOf f (c : Int) (j : Int))), .long (lZ hy)]
                refine z_top (show blockOf f (c : Int) (j : Int) = hBlk f (5 * c + j) from by unfold hBlk; rw [show ((5 * c + j : Nat) : Int) / 5 = (c : Int) by omega, show ((5 * c + j : Nat) : Int) % 5 = (j : Int) by omega]) ?_
                refine z_i2lw mx mb dX4_hashOfBlocks_38 ?_
                refine z_callPSl (As := [.long (lZ hy), .long (lZ (wz (hBlk f (5 * c + j))))]) (rest := []) ⟨mx, mb, mml, mo, mts⟩ hK zgw (c_X4_hashWith l D y hy (wz (hBlk f (5 * c + j)))) (cwS 2 mts gX4_hashOfBlocks_X4_hashWith rfl rfl rfl (by decide +kernel) ⟨Nat.le_of_ble_eq_true rfl, Nat.le_of_ble_eq_true rfl⟩) (fun _ h => nomatch h) rfl rfl (Nat.le_of_ble_eq_true rfl) ⟨Nat.zero_le _, Nat.zero_le _⟩ dX4_hashOfBlocks_39 ?_
                refine z_lstore_n mx mb dX4_hashOfBlocks_42 rfl (by decide) [(3, .long (lZ (31 * hy + (wz (hBlk f (5 * c + j)))))), (0, .ref (o 0)), (1, .long (lZ h)), (5, .int (iZ x5)), (6, .int (iZ x6))] rfl ?_
                refine z_iinc mx mb dX4_hashOfBlocks_43 4 rfl (by decide) [(6, .int (iZ (x6 + 1))), (3, .long (lZ (31 * hy + (wz (hBlk f (5 * c + j)))))), (0, .ref (o 0)), (1, .long (lZ h)), (5, .int (iZ x5))] rfl ?_
                refine z_goto (tgt := 23) mx mb dX4_hashOfBlocks_46 (by decide) ?_
                refine z_lv [2, 3, 1, 4, 0] rfl ?_
                exact ih23 (j + 1) _ _ (by omega) (by omega) (by omega) (by rw [eh2]; rfl)
          refine z_lv [1, 2, 3, 4, 0] rfl ?_
          exact lp23 _ 0 0 _ (Nat.lt_succ_self _) (by omega) (by rfl) (by rw [eh]; rfl)
    refine z_lv [2, 3, 1, 0] rfl ?_
    exact lp5 _ 0 0 h (Nat.lt_succ_self _) (by omega) (by rfl) (by rfl)
  subst hQ
  subst hw0
  exact hstart

theorem in_X4_hashOfDispatches_X4 : ∀ w ∈ wsX40, w ∈ wsX4_hashOfDispatches := by decide +kernel
set_option maxRecDepth 100000 in
set_option maxHeartbeats 4000000 in
theorem c_X4_hashOfDispatches (l : Launch) (D : va_G) (sz : Nat) (y : Nat → ClassId) (o : Nat → Nat) (a : Nat → Nat → Nat) (S : Nat → Nat → Int → Int) (tb : Nat → Nat) (x : Int → Int) (ln sc : Int) (f : Int → Int) (h : Int) (hR : Rel f (S 0)) (hI : Inv 100000 f) (kp : Kp f) : Met l yX4_hashOfDispatches wsX4_hashOfDispatches ({ frames := 3, cells := 0, slots := 0, locals := 56 } : Room) (zPw D vwCl (zT y) (wBq y o a S tb x ln sc (sav a) p6) sz [.ref (o 0), .long (lZ h)]) (va_Ql (fun (r : Int64) (_ : Unit) => r = lZ (dgL f h)) (zB D vwCl (zT y) (wBq y o a S tb x ln sc (sav a) p6) sz (fun _ : Unit => wBq y o a S tb x ln sc (sav a) p6)) (va_A (wBq y o a S tb x ln sc (sav a) p6) sz)) 0 0 (va_A (wBq y o a S tb x ln sc (sav a) p6) sz) := by
  refine z_headW (cc := cX4_hashOfDispatches) (maxL := 8) (ret := (some .long)) [(0, .ref (o 0)), (1, .long (lZ h))] rfl (Nat.le_of_ble_eq_true rfl) (by decide +kernel) rfl ?_
  intro pp ee ss mm below meth cd mx mb mr mml mo mts mlk hK hname hsz hA
  generalize ([.ref (o 0), .long (lZ h)] : List Value).toArray = args at mts ⊢
  obtain ⟨wst, hw0⟩ : ∃ wst, wst = wBq y o a S tb x ln sc (sav a) p6 := ⟨_, rfl⟩
  have hA : ∀ q, ss.heap.size ≤ q → va_A wst sz q := by rw [hw0]; exact hA
  obtain ⟨Q, hQ⟩ : ∃ Q, Q = MQ below (va_Ql (fun (r : Int64) (_ : Unit) => r = lZ (dgL f h)) (zB D vwCl (zT y) wst sz (fun _ : Unit => wBq y o a S tb x ln sc (sav a) p6)) (va_A wst sz)) args ss 0 0 (va_A wst sz) := ⟨_, rfl⟩
  have hstart : Gz pp l ee ({ frames := 3, cells := 0, slots := 0, locals := 56 } : Room) ss mm args below meth cd 8 0 0 Q (Zw D vwCl (va_A wst sz) ss (wBq y o a S tb x ln sc (sav a) p6)) 0 [(0, .ref (o 0)), (1, .long (lZ h))] [] := by
    obtain ⟨hW, hN, hT⟩ := (Inv_Jy hI).f
    obtain ⟨w0, w1, w2, w3, w4, w5, w6⟩ := id hW
    obtain ⟨n3, n4, n5, n6, n7, n8, n9, n10⟩ := id hN
    obtain ⟨⟨r0, r1, r2, r3, r4⟩, rc, rb, ⟨s0, s1, s2, s3⟩, rt, rl⟩ := id hR
    obtain ⟨kA, hG, hS9⟩ := id kp
    obtain ⟨gg1, gg2, gg3⟩ := id hG
    have g8 : f 10 ≤ f 8 := (by rw [gg1]; split <;> omega)
    refine z_lload_n mx mb dX4_hashOfDispatches_0 rfl 1 rfl ?_
    refine z_lstore_n mx mb dX4_hashOfDispatches_1 rfl (by decide) [(3, .long (lZ h)), (0, .ref (o 0)), (1, .long (lZ h))] rfl ?_
    refine z_aload_n mx mb dX4_hashOfDispatches_2 rfl 1 rfl ?_
    refine z_get (C := RX4) (T := TX4) (N := 5) mx mb mts (in_X4_hashOfDispatches_X4) mo hK zgw 0 wB_0 rfl 0 (by decide) (mts _ (List.mem_of_getElem? (i := 1) rfl)) (fun _ h9 => h9) rfl dX4_hashOfDispatches_3 ?_
    refine z_callP (As := []) (rest := []) ⟨mx, mb, mml, mo, mts⟩ hK zgw (c_X0_keptDispatches l D y (a 0) (S 0) f  (by assumption) (by assumption) (by assumption)) (cwV 0 mts gX4_hashOfDispatches_X0_keptDispatches rfl rfl rfl (by decide +kernel) ⟨Nat.le_of_ble_eq_true rfl, Nat.le_of_ble_eq_true rfl⟩) (wB_in 0 (by omega)) (4 + 15 * 0 + 0) ((wB_get 0 0 (by omega) (by omega)).trans wR_0) rfl rfl rfl rfl (Nat.le_of_ble_eq_true rfl) ⟨Nat.zero_le _, Nat.zero_le _⟩ dX4_hashOfDispatches_6 ?_
    refine z_istore mx mb dX4_hashOfDispatches_9 (by decide) [(5, .int (iZ (f 10))), (3, .long (lZ h)), (0, .ref (o 0)), (1, .long (lZ h))] rfl ?_
    refine z_iconst mx mb dX4_hashOfDispatches_11 ?_
    refine z_istore mx mb dX4_hashOfDispatches_12 (by decide) [(6, .int (iZ 0)), (5, .int (iZ (f 10))), (3, .long (lZ h)), (0, .ref (o 0)), (1, .long (lZ h))] rfl ?_
    have lp14 : ∀ (nn : Nat) (c : Nat) (x5 hx : Int), (f 10).toNat - c < nn → ((c : Int) ≤ f 10) → (x5 = (c : Int)) → (hx = hgo (hLog f) h (2 * c)) → Gz pp l ee ({ frames := 3, cells := 0, slots := 0, locals := 56 } : Room) ss mm args below meth cd 8 0 0 Q (Zw D vwCl (va_A wst sz) ss (wBq y o a S tb x ln sc (sav a) p6)) 14 [(0, .ref (o 0)), (1, .long (lZ h)), (3, .long (lZ hx)), (5, .int (iZ (f 10))), (6, .int (iZ x5))] [] := by
      intro nn
      induction nn with
      | zero => exact fun c x5 hx hm => absurd hm (Nat.not_lt_zero _)
      | succ nn ih =>
        intro c x5 hx hm hi e5 eh
        refine z_iload mx mb dX4_hashOfDispatches_14 4 rfl ?_
        refine z_iload mx mb dX4_hashOfDispatches_16 3 rfl ?_
        refine z_top (show f 10 = f 10 from by omega) ?_
        refine z_icmp_ge (tgt := 56) mx mb (by omega) (by omega) dX4_hashOfDispatches_18 (by decide) (fun c18 => ?_) (fun c18 => ?_)
        · skip
          have hc2 : c = (f 10).toNat := by omega
          refine z_lload_n mx mb dX4_hashOfDispatches_56 rfl 2 rfl ?_
          rw [hQ]
          exact z_retL mx mb mr mlk hK () (by rw [eh, hc2]; rfl) rfl dX4_hashOfDispatches_57
        · skip
          refine z_iconst mx mb dX4_hashOfDispatches_21 ?_
          refine z_istore mx mb dX4_hashOfDispatches_22 (by decide) [(7, .int (iZ 0)), (0, .ref (o 0)), (1, .long (lZ h)), (3, .long (lZ hx)), (5, .int (iZ (f 10))), (6, .int (iZ x5))] rfl ?_
          have lp24 : ∀ (nn : Nat) (j : Nat) (x6 hy : Int), 2 - j < nn → (j ≤ 2) → (x6 = (j : Int)) → (hy = hgo (hLog f) h (2 * c + j)) → Gz pp l ee ({ frames := 3, cells := 0, slots := 0, locals := 56 } : Room) ss mm args below meth cd 8 0 0 Q (Zw D vwCl (va_A wst sz) ss (wBq y o a S tb x ln sc (sav a) p6)) 24 [(0, .ref (o 0)), (1, .long (lZ h)), (3, .long (lZ hy)), (5, .int (iZ (f 10))), (6, .int (iZ x5)), (7, .int (iZ x6))] [] := by
            intro nn
            induction nn with
            | zero => exact fun j x6 hy hm => absurd hm (Nat.not_lt_zero _)
            | succ nn ih24 =>
              intro j x6 hy hm hj e6 eh2
              refine z_iload mx mb dX4_hashOfDispatches_24 5 rfl ?_
              refine z_iconst mx mb dX4_hashOfDispatches_26 ?_
              refine z_icmp_ge (tgt := 50) mx mb (by omega) (by omega) dX4_hashOfDispatches_27 (by decide) (fun c27 => ?_) (fun c27 => ?_)
              · skip
                have hj2 : j = 2 := by omega
                refine z_iinc mx mb dX4_hashOfDispatches_50 4 rfl (by decide) [(6, .int (iZ (x5 + 1))), (0, .ref (o 0)), (1, .long (lZ h)), (3, .long (lZ hy)), (5, .int (iZ (f 10))), (7, .int (iZ x6))] rfl ?_
                refine z_goto (tgt := 14) mx mb dX4_hashOfDispatches_53 (by decide) ?_
                refine z_lv [1, 2, 3, 4, 0] rfl ?_
                exact ih (c + 1) _ _ (by omega) (by omega) (by omega) (by rw [eh2, show 2 * (c + 1) = 2 * c + j by omega])
              · skip
                refine z_lload_n mx mb dX4_hashOfDispatches_30 rfl 2 rfl ?_
                refine z_aload_n mx mb dX4_hashOfDispatches_31 rfl 0 rfl ?_
                refine z_iload mx mb dX4_hashOfDispatches_32 4 rfl ?_
                refine z_top (show x5 = (c : Int) from by exact e5) ?_
                refine z_iload mx mb dX4_hashOfDispatches_34 5 rfl ?_
                refine z_top (show x6 = (j : Int) from by exact e6) ?_
                refine z_callI0 (As := [.int (iZ (c : Int)), .int (iZ (j : Int))]) (rest := [.long (lZ hy)]) ⟨mx, mb, mml, mo, mts⟩ hK hA (fun sz => c_X4_dispatch l D sz y o a S tb x ln sc f (c : Int) (j : Int) hR hI kp (by omega) (by omega)) (cwV 2 mts gX4_hashOfDispatches_X4_dispatch rfl rfl rfl (by decide +kernel) ⟨Nat.le_of_ble_eq_true rfl, Nat.le_of_ble_eq_true rfl⟩) 0 wB_0 rfl rfl rfl rfl (Nat.le_of_ble_eq_true rfl) ⟨Nat.zero_le _, Nat.zero_le _⟩ dX4_hashOfDispatches_36 (fun r36 u36 hu36 => ?_)
                obtain rfl : r36 = iZ (f (111 + 2 * (f 10 - 1 - (c : Int)) + (j : Int))) := hu36
                show Gz pp l ee ({ frames := 3, cells := 0, slots := 0, locals := 56 } : Room) ss mm args below meth cd 8 0 0 Q (Zw D vwCl (va_A wst sz) ss (wBq y o a S tb x ln sc (sav a) p6)) 39 [(0, .ref (o 0)), (1, .long (lZ h)), (3, .long (lZ hy)), (5, .int (iZ (f 10))), (6, .int (iZ x5)), (7, .int (iZ x6))] [.int (iZ (f (111 + 2 * (f 10 - 1 - (c : Int)) + (j : Int)))), .long (lZ hy)]
                refine z_top (show f (111 + 2 * (f 10 - 1 - (c : Int)) + (j : Int)) = hLog f (2 * c + j) from by unfold hLog; rw [show ((2 * c + j : Nat) : Int) / 2 = (c : Int) by omega, show ((2 * c + j : Nat) : Int) % 2 = (j : Int) by omega]) ?_
                refine z_i2lw mx mb dX4_hashOfDispatches_39 ?_
                refine z_callPSl (As := [.long (lZ hy), .long (lZ (wz (hLog f (2 * c + j))))]) (rest := []) ⟨mx, mb, mml, mo, mts⟩ hK zgw (c_X4_hashWith l D y hy (wz (hLog f (2 * c + j)))) (cwS 2 mts gX4_hashOfDispatches_X4_hashWith rfl rfl rfl (by decide +kernel) ⟨Nat.le_of_ble_eq_true rfl, Nat.le_of_ble_eq_true rfl⟩) (fun _ h => nomatch h) rfl rfl (Nat.le_of_ble_eq_true rfl) ⟨Nat.zero_le _, Nat.zero_le _⟩ dX4_hashOfDispatches_40 ?_
                refine z_lstore_n mx mb dX4_hashOfDispatches_43 rfl (by decide) [(3, .long (lZ (31 * hy + (wz (hLog f (2 * c + j)))))), (0, .ref (o 0)), (1, .long (lZ h)), (5, .int (iZ (f 10))), (6, .int (iZ x5)), (7, .int (iZ x6))] rfl ?_
                refine z_iinc mx mb dX4_hashOfDispatches_44 5 rfl (by decide) [(7, .int (iZ (x6 + 1))), (3, .long (lZ (31 * hy + (wz (hLog f (2 * c + j)))))), (0, .ref (o 0)), (1, .long (lZ h)), (5, .int (iZ (f 10))), (6, .int (iZ x5))] rfl ?_
                refine z_goto (tgt := 24) mx mb dX4_hashOfDispatches_47 (by decide) ?_
                refine z_lv [2, 3, 1, 4, 5, 0] rfl ?_
                exact ih24 (j + 1) _ _ (by omega) (by omega) (by omega) (by rw [eh2]; rfl)
          refine z_lv [1, 2, 3, 4, 5, 0] rfl ?_
          exact lp24 _ 0 0 _ (Nat.lt_succ_self _) (by omega) (by rfl) (by rw [eh]; rfl)
    refine z_lv [3, 4, 2, 1, 0] rfl ?_
    exact lp14 _ 0 0 h (Nat.lt_succ_self _) (by omega) (by rfl) (by rfl)
  subst hQ
  subst hw0
  exact hstart

theorem in_X4_hashOfTrains_X0 : ∀ w ∈ wsX00, w ∈ wsX4_hashOfTrains := by decide +kernel
theorem in_X4_hashOfTrains_X4 : ∀ w ∈ wsX40, w ∈ wsX4_hashOfTrains := by decide +kernel
set_option maxRecDepth 100000 in
set_option maxHeartbeats 4000000 in
theorem c_X4_hashOfTrains (l : Launch) (D : va_G) (sz : Nat) (y : Nat → ClassId) (o : Nat → Nat) (a : Nat → Nat → Nat) (S : Nat → Nat → Int → Int) (tb : Nat → Nat) (x : Int → Int) (ln sc : Int) (f : Int → Int) (h : Int) (hR : Rel f (S 0)) (hI : Inv 100000 f) (kp : Kp f) : Met l yX4_hashOfTrains wsX4_hashOfTrains ({ frames := 4, cells := 0, slots := 0, locals := 88 } : Room) (zPw D vwCl (zT y) (wBq y o a S tb x ln sc (sav a) p6) sz [.ref (o 0), .long (lZ h)]) (va_Ql (fun (r : Int64) (_ : Unit) => r = lZ (dgT f h)) (zB D vwCl (zT y) (wBq y o a S tb x ln sc (sav a) p6) sz (fun _ : Unit => wBq y o a S tb x ln sc (sav a) p6)) (va_A (wBq y o a S tb x ln sc (sav a) p6) sz)) 0 0 (va_A (wBq y o a S tb x ln sc (sav a) p6) sz) := by
  refine z_headW (cc := cX4_hashOfTrains) (maxL := 7) (ret := (some .long)) [(0, .ref (o 0)), (1, .long (lZ h))] rfl (Nat.le_of_ble_eq_true rfl) (by decide +kernel) rfl ?_
  intro pp ee ss mm below meth cd mx mb mr mml mo mts mlk hK hname hsz hA
  generalize ([.ref (o 0), .long (lZ h)] : List Value).toArray = args at mts ⊢
  obtain ⟨wst, hw0⟩ : ∃ wst, wst = wBq y o a S tb x ln sc (sav a) p6 := ⟨_, rfl⟩
  have hA : ∀ q, ss.heap.size ≤ q → va_A wst sz q := by rw [hw0]; exact hA
  obtain ⟨Q, hQ⟩ : ∃ Q, Q = MQ below (va_Ql (fun (r : Int64) (_ : Unit) => r = lZ (dgT f h)) (zB D vwCl (zT y) wst sz (fun _ : Unit => wBq y o a S tb x ln sc (sav a) p6)) (va_A wst sz)) args ss 0 0 (va_A wst sz) := ⟨_, rfl⟩
  have hstart : Gz pp l ee ({ frames := 4, cells := 0, slots := 0, locals := 88 } : Room) ss mm args below meth cd 7 0 0 Q (Zw D vwCl (va_A wst sz) ss (wBq y o a S tb x ln sc (sav a) p6)) 0 [(0, .ref (o 0)), (1, .long (lZ h))] [] := by
    obtain ⟨hW, hN, hT⟩ := (Inv_Jy hI).f
    obtain ⟨w0, w1, w2, w3, w4, w5, w6⟩ := id hW
    obtain ⟨n3, n4, n5, n6, n7, n8, n9, n10⟩ := id hN
    obtain ⟨⟨r0, r1, r2, r3, r4⟩, rc, rb, ⟨s0, s1, s2, s3⟩, rt, rl⟩ := id hR
    obtain ⟨kA, hG, hS9⟩ := id kp
    refine z_lload_n mx mb dX4_hashOfTrains_0 rfl 1 rfl ?_
    refine z_lstore_n mx mb dX4_hashOfTrains_1 rfl (by decide) [(3, .long (lZ h)), (0, .ref (o 0)), (1, .long (lZ h))] rfl ?_
    refine z_iconst mx mb dX4_hashOfTrains_2 ?_
    refine z_istore mx mb dX4_hashOfTrains_3 (by decide) [(5, .int (iZ 0)), (3, .long (lZ h)), (0, .ref (o 0)), (1, .long (lZ h))] rfl ?_
    have lp5 : ∀ (nn : Nat) (c : Nat) (x5 hx : Int), (f 2).toNat - c < nn → ((c : Int) ≤ f 2) → (x5 = (c : Int)) → (hx = hTr f h c) → Gz pp l ee ({ frames := 4, cells := 0, slots := 0, locals := 88 } : Room) ss mm args below meth cd 7 0 0 Q (Zw D vwCl (va_A wst sz) ss (wBq y o a S tb x ln sc (sav a) p6)) 5 [(0, .ref (o 0)), (1, .long (lZ h)), (3, .long (lZ hx)), (5, .int (iZ x5))] [] := by
      intro nn
      induction nn with
      | zero => exact fun c x5 hx hm => absurd hm (Nat.not_lt_zero _)
      | succ nn ih =>
        intro c x5 hx hm hi e5 eh
        refine z_iload mx mb dX4_hashOfTrains_5 3 rfl ?_
        refine z_aload_n mx mb dX4_hashOfTrains_7 rfl 0 rfl ?_
        refine z_get (C := RX4) (T := TX4) (N := 5) mx mb mts (in_X4_hashOfTrains_X4) mo hK zgw 0 wB_0 rfl 0 (by decide) (mts _ (List.mem_of_getElem? (i := 1) rfl)) (fun _ h9 => h9) rfl dX4_hashOfTrains_8 ?_
        refine z_get (C := RX0) (T := TX0) (N := 9) mx mb mts (in_X4_hashOfTrains_X0) mo hK zgw (4 + 15 * 0 + 0) ((wB_get 0 0 (by omega) (by omega)).trans wR_0) rfl 6 (by decide) (mts _ (List.mem_of_getElem? (i := 2) rfl)) (fun _ h9 => h9) rfl dX4_hashOfTrains_11 ?_
        refine z_top (show (S 0) 0 0 = f 2 from by exact r2) ?_
        refine z_icmp_ge (tgt := 65) mx mb (by omega) (by omega) dX4_hashOfTrains_14 (by decide) (fun c14 => ?_) (fun c14 => ?_)
        · skip
          have hc2 : c = (f 2).toNat := by omega
          refine z_lload_n mx mb dX4_hashOfTrains_65 rfl 2 rfl ?_
          rw [hQ]
          exact z_retL mx mb mr mlk hK () (by rw [eh, hc2]; rfl) rfl dX4_hashOfTrains_66
        · skip
          refine z_iconst mx mb dX4_hashOfTrains_17 ?_
          refine z_istore mx mb dX4_hashOfTrains_18 (by decide) [(6, .int (iZ 0)), (0, .ref (o 0)), (1, .long (lZ h)), (3, .long (lZ hx)), (5, .int (iZ x5))] rfl ?_
          have lp20 : ∀ (nn : Nat) (j : Nat) (x6 hy : Int), 10 - j < nn → (j ≤ 10) → (x6 = (j : Int)) → (hy = hgo (fun w => trainOf f (c : Int) (w : Int)) hx j) → Gz pp l ee ({ frames := 4, cells := 0, slots := 0, locals := 88 } : Room) ss mm args below meth cd 7 0 0 Q (Zw D vwCl (va_A wst sz) ss (wBq y o a S tb x ln sc (sav a) p6)) 20 [(0, .ref (o 0)), (1, .long (lZ h)), (3, .long (lZ hy)), (5, .int (iZ x5)), (6, .int (iZ x6))] [] := by
            intro nn
            induction nn with
            | zero => exact fun j x6 hy hm => absurd hm (Nat.not_lt_zero _)
            | succ nn ih20 =>
              intro j x6 hy hm hj e6 eh2
              refine z_iload mx mb dX4_hashOfTrains_20 4 rfl ?_
              refine z_bipush mx mb dX4_hashOfTrains_22 (by decide +kernel) ?_
              refine z_icmp_ge (tgt := 47) mx mb (by omega) (by omega) dX4_hashOfTrains_24 (by decide) (fun c24 => ?_) (fun c24 => ?_)
              · skip
                have hj2 : j = 10 := by omega
                refine z_lload_n mx mb dX4_hashOfTrains_47 rfl 2 rfl ?_
                refine z_aload_n mx mb dX4_hashOfTrains_48 rfl 0 rfl ?_
                refine z_iload mx mb dX4_hashOfTrains_49 3 rfl ?_
                refine z_top (show x5 = (c : Int) from by exact e5) ?_
                refine z_callI0 (As := [.int (iZ (c : Int))]) (rest := [.long (lZ hy)]) ⟨mx, mb, mml, mo, mts⟩ hK hA (fun sz => c_X4_why l D sz y o a S tb x ln sc f (c : Int) hR hI kp (by omega)) (cwV 1 mts gX4_hashOfTrains_X4_why rfl rfl rfl (by decide +kernel) ⟨Nat.le_of_ble_eq_true rfl, Nat.le_of_ble_eq_true rfl⟩) 0 wB_0 rfl rfl rfl rfl (Nat.le_of_ble_eq_true rfl) ⟨Nat.zero_le _, Nat.zero_le _⟩ dX4_hashOfTrains_51 (fun r51 u51 hu51 => ?_)
                obtain rfl : r51 = iZ (whyOf f (c : Int)) := hu51
                show Gz pp l ee ({ frames := 4, cells := 0, slots := 0, locals := 88 } : Room) ss mm args below meth cd 7 0 0 Q (Zw D vwCl (va_A wst sz) ss (wBq y o a S tb x ln sc (sav a) p6)) 54 [(0, .ref (o 0)), (1, .long (lZ h)), (3, .long (lZ hy)), (5, .int (iZ x5)), (6, .int (iZ x6))] [.int (iZ (whyOf f (c : Int))), .long (lZ hy)]
                refine z_i2lw mx mb dX4_hashOfTrains_54 ?_
                refine z_callPSl (As := [.long (lZ hy), .long (lZ (wz (whyOf f (c : Int))))]) (rest := []) ⟨mx, mb, mml, mo, mts⟩ hK zgw (c_X4_hashWith l D y hy (wz (whyOf f (c : Int)))) (cwS 2 mts gX4_hashOfTrains_X4_hashWith rfl rfl rfl (by decide +kernel) ⟨Nat.le_of_ble_eq_true rfl, Nat.le_of_ble_eq_true rfl⟩) (fun _ h => nomatch h) rfl rfl (Nat.le_of_ble_eq_true rfl) ⟨Nat.zero_le _, Nat.zero_le _⟩ dX4_hashOfTrains_55 ?_
                refine z_lstore_n mx mb dX4_hashOfTrains_58 rfl (by decide) [(3, .long (lZ (31 * hy + (wz (whyOf f (c : Int)))))), (0, .ref (o 0)), (1, .long (lZ h)), (5, .int (iZ x5)), (6, .int (iZ x6))] rfl ?_
                refine z_iinc mx mb dX4_hashOfTrains_59 3 rfl (by decide) [(5, .int (iZ (x5 + 1))), (3, .long (lZ (31 * hy + (wz (whyOf f (c : Int)))))), (0, .ref (o 0)), (1, .long (lZ h)), (6, .int (iZ x6))] rfl ?_
                refine z_goto (tgt := 5) mx mb dX4_hashOfTrains_62 (by decide) ?_
                refine z_lv [2, 3, 1, 0] rfl ?_
                exact ih (c + 1) _ _ (by omega) (by omega) (by omega) (by rw [eh2, eh, hj2]; rfl)
              · skip
                refine z_lload_n mx mb dX4_hashOfTrains_27 rfl 2 rfl ?_
                refine z_aload_n mx mb dX4_hashOfTrains_28 rfl 0 rfl ?_
                refine z_iload mx mb dX4_hashOfTrains_29 3 rfl ?_
                refine z_top (show x5 = (c : Int) from by exact e5) ?_
                refine z_iload mx mb dX4_hashOfTrains_31 4 rfl ?_
                refine z_top (show x6 = (j : Int) from by exact e6) ?_
                refine z_callI0 (As := [.int (iZ (c : Int)), .int (iZ (j : Int))]) (rest := [.long (lZ hy)]) ⟨mx, mb, mml, mo, mts⟩ hK hA (fun sz => c_X4_train l D sz y o a S tb x ln sc f (c : Int) (j : Int) hR hI kp (by omega) (by omega)) (cwV 2 mts gX4_hashOfTrains_X4_train rfl rfl rfl (by decide +kernel) ⟨Nat.le_of_ble_eq_true rfl, Nat.le_of_ble_eq_true rfl⟩) 0 wB_0 rfl rfl rfl rfl (Nat.le_of_ble_eq_true rfl) ⟨Nat.zero_le _, Nat.zero_le _⟩ dX4_hashOfTrains_33 (fun r33 u33 hu33 => ?_)
                obtain rfl : r33 = iZ (trainOf f (c : Int) (j : Int)) := hu33
                show Gz pp l ee ({ frames := 4, cells := 0, slots := 0, locals := 88 } : Room) ss mm args below meth cd 7 0 0 Q (Zw D vwCl (va_A wst sz) ss (wBq y o a S tb x ln sc (sav a) p6)) 36 [(0, .ref (o 0)), (1, .long (lZ h)), (3, .long (lZ hy)), (5, .int (iZ x5)), (6, .int (iZ x6))] [.int (iZ (trainOf f (c : Int) (j : Int))), .long (lZ hy)]
                refine z_i2lw mx mb dX4_hashOfTrains_36 ?_
                refine z_callPSl (As := [.long (lZ hy), .long (lZ (wz (trainOf f (c : Int) (j : Int))))]) (rest := []) ⟨mx, mb, mml, mo, mts⟩ hK zgw (c_X4_hashWith l D y hy (wz (trainOf f (c : Int) (j : Int)))) (cwS 2 mts gX4_hashOfTrains_X4_hashWith rfl rfl rfl (by decide +kernel) ⟨Nat.le_of_ble_eq_true rfl, Nat.le_of_ble_eq_true rfl⟩) (fun _ h => nomatch h) rfl rfl (Nat.le_of_ble_eq_true rfl) ⟨Nat.zero_le _, Nat.zero_le _⟩ dX4_hashOfTrains_37 ?_
                refine z_lstore_n mx mb dX4_hashOfTrains_40 rfl (by decide) [(3, .long (lZ (31 * hy + (wz (trainOf f (c : Int) (j : Int)))))), (0, .ref (o 0)), (1, .long (lZ h)), (5, .int (iZ x5)), (6, .int (iZ x6))] rfl ?_
                refine z_iinc mx mb dX4_hashOfTrains_41 4 rfl (by decide) [(6, .int (iZ (x6 + 1))), (3, .long (lZ (31 * hy + (wz (trainOf f (c : Int) (j : Int)))))), (0, .ref (o 0)), (1, .long (lZ h)), (5, .int (iZ x5))] rfl ?_
                refine z_goto (tgt := 20) mx mb dX4_hashOfTrains_44 (by decide) ?_
                refine z_lv [2, 3, 1, 4, 0] rfl ?_
                exact ih20 (j + 1) _ _ (by omega) (by omega) (by omega) (by rw [eh2]; rfl)
          refine z_lv [1, 2, 3, 4, 0] rfl ?_
          exact lp20 _ 0 0 _ (Nat.lt_succ_self _) (by omega) (by rfl) (by rfl)
    refine z_lv [2, 3, 1, 0] rfl ?_
    exact lp5 _ 0 0 h (Nat.lt_succ_self _) (by omega) (by rfl) (by rfl)
  subst hQ
  subst hw0
  exact hstart
