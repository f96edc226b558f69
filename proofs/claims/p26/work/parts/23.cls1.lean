theorem in_X1_nextCell_X1 : ∀ w ∈ wsX10, w ∈ wsX1_nextCell := by decide +kernel
set_option maxRecDepth 100000 in
set_option maxHeartbeats 4000000 in
theorem c_X1_nextCell (l : Launch) (D : va_G) (y : Nat → ClassId) (a : Nat → Nat) (R : Nat → Int → Int) (f : Int → Int) (c : Int) (hc : 0 ≤ c ∧ c < f 0) (hR : Rel f R) (hW : Wf f) : Met l yX1_nextCell wsX1_nextCell ({ frames := 0, cells := 0, slots := 0, locals := 0 } : Room) (zPp D vwCl (zT y) (wR y a R) [.ref (a 1), .int (iZ c)]) (vp_Si (fun r => r = iZ (after f c))) 0 0 (fun _ => False) := by
  refine z_headP (cc := cX1_nextCell) (maxL := 2) (ret := (some .int)) [(0, .ref (a 1)), (1, .int (iZ c))] rfl (Nat.le_of_ble_eq_true rfl) (by decide +kernel) rfl ?_
  intro pp ee ss mm below meth cd mx mb mr mml mo mts mlk hK hP
  generalize ([.ref (a 1), .int (iZ c)] : List Value).toArray = args at mts ⊢
  obtain ⟨Q, hQ⟩ : ∃ Q, Q = MQ below (vp_Si (fun r => r = iZ (after f c))) args ss 0 0 (fun _ => False) := ⟨_, rfl⟩
  rw [← hQ]
  obtain ⟨⟨r0, r1, r2, r3, r4⟩, rc, rb, ⟨s0, s1, s2, s3⟩, rt, rl⟩ := id hR
  obtain ⟨w0, w1, w2, w3, w4, w5, w6⟩ := id hW
  refine z_iload_n mx mb dX1_nextCell_0 rfl 1 rfl ?_
  refine z_iconst mx mb dX1_nextCell_1 ?_
  refine z_iadd mx mb dX1_nextCell_2 ?_
  refine z_aload_n mx mb dX1_nextCell_3 rfl 0 rfl ?_
  refine z_get (C := RX1) (T := TX1) (N := 6) mx mb mts (in_X1_nextCell_X1) mo hK (zgp hP) 1 wR_1 rfl 4 (by decide) (mts _ (List.mem_of_getElem? (i := 1) rfl)) (fun _ h9 => h9) rfl dX1_nextCell_4 ?_
  refine z_icmp_ge (tgt := 16) mx mb (by omega) (by omega) dX1_nextCell_7 (by decide) (fun c7 => ?_) (fun c7 => ?_)
  · skip
    refine z_iconst mx mb dX1_nextCell_16 ?_
    rw [hQ]
    exact z_retP mx mb mr mlk (by unfold after; first | (rw [if_pos (by omega)]; done) | (rw [if_neg (by omega)]; done)) dX1_nextCell_17
  · skip
    refine z_iload_n mx mb dX1_nextCell_10 rfl 1 rfl ?_
    refine z_iconst mx mb dX1_nextCell_11 ?_
    refine z_iadd mx mb dX1_nextCell_12 ?_
    refine z_goto (tgt := 17) mx mb dX1_nextCell_13 (by decide) ?_
    rw [hQ]
    exact z_retP mx mb mr mlk (by unfold after; first | (rw [if_pos (by omega)]; done) | (rw [if_neg (by omega)]; done)) dX1_nextCell_17

theorem in_X1_nextBlock_X1 : ∀ w ∈ wsX10, w ∈ wsX1_nextBlock := by decide +kernel
set_option maxRecDepth 100000 in
set_option maxHeartbeats 4000000 in
theorem c_X1_nextBlock (l : Launch) (D : va_G) (y : Nat → ClassId) (a : Nat → Nat) (R : Nat → Int → Int) (f : Int → Int) (b : Int) (hc : 0 ≤ b ∧ b < f 1) (hR : Rel f R) (hW : Wf f) : Met l yX1_nextBlock wsX1_nextBlock ({ frames := 0, cells := 0, slots := 0, locals := 0 } : Room) (zPp D vwCl (zT y) (wR y a R) [.ref (a 1), .int (iZ b)]) (vp_Si (fun r => r = iZ (nextB f b))) 0 0 (fun _ => False) := by
  refine z_headP (cc := cX1_nextBlock) (maxL := 2) (ret := (some .int)) [(0, .ref (a 1)), (1, .int (iZ b))] rfl (Nat.le_of_ble_eq_true rfl) (by decide +kernel) rfl ?_
  intro pp ee ss mm below meth cd mx mb mr mml mo mts mlk hK hP
  generalize ([.ref (a 1), .int (iZ b)] : List Value).toArray = args at mts ⊢
  obtain ⟨Q, hQ⟩ : ∃ Q, Q = MQ below (vp_Si (fun r => r = iZ (nextB f b))) args ss 0 0 (fun _ => False) := ⟨_, rfl⟩
  rw [← hQ]
  obtain ⟨⟨r0, r1, r2, r3, r4⟩, rc, rb, ⟨s0, s1, s2, s3⟩, rt, rl⟩ := id hR
  obtain ⟨w0, w1, w2, w3, w4, w5, w6⟩ := id hW
  refine z_iload_n mx mb dX1_nextBlock_0 rfl 1 rfl ?_
  refine z_iconst mx mb dX1_nextBlock_1 ?_
  refine z_iadd mx mb dX1_nextBlock_2 ?_
  refine z_aload_n mx mb dX1_nextBlock_3 rfl 0 rfl ?_
  refine z_get (C := RX1) (T := TX1) (N := 6) mx mb mts (in_X1_nextBlock_X1) mo hK (zgp hP) 1 wR_1 rfl 5 (by decide) (mts _ (List.mem_of_getElem? (i := 1) rfl)) (fun _ h9 => h9) rfl dX1_nextBlock_4 ?_
  refine z_icmp_ge (tgt := 16) mx mb (by omega) (by omega) dX1_nextBlock_7 (by decide) (fun c7 => ?_) (fun c7 => ?_)
  · skip
    refine z_iconst mx mb dX1_nextBlock_16 ?_
    rw [hQ]
    exact z_retP mx mb mr mlk (by unfold nextB; first | (rw [if_pos (by omega)]; done) | (rw [if_neg (by omega)]; done)) dX1_nextBlock_17
  · skip
    refine z_iload_n mx mb dX1_nextBlock_10 rfl 1 rfl ?_
    refine z_iconst mx mb dX1_nextBlock_11 ?_
    refine z_iadd mx mb dX1_nextBlock_12 ?_
    refine z_goto (tgt := 17) mx mb dX1_nextBlock_13 (by decide) ?_
    rw [hQ]
    exact z_retP mx mb mr mlk (by unfold nextB; first | (rw [if_pos (by omega)]; done) | (rw [if_neg (by omega)]; done)) dX1_nextBlock_17

theorem in_X1_brakeBefore_X1 : ∀ w ∈ wsX10, w ∈ wsX1_brakeBefore := by decide +kernel
set_option maxRecDepth 100000 in
set_option maxHeartbeats 4000000 in
theorem c_X1_brakeBefore (l : Launch) (D : va_G) (y : Nat → ClassId) (a : Nat → Nat) (R : Nat → Int → Int) (f : Int → Int) (b : Int) (hc : 0 ≤ b ∧ b < f 1) (hR : Rel f R) (hW : Wf f) : Met l yX1_brakeBefore wsX1_brakeBefore ({ frames := 0, cells := 0, slots := 0, locals := 0 } : Room) (zPp D vwCl (zT y) (wR y a R) [.ref (a 1), .int (iZ b)]) (vp_Si (fun r => r = iZ (brakeOf f (ahead f b)))) 0 0 (fun _ => False) := by
  refine z_headP (cc := cX1_brakeBefore) (maxL := 2) (ret := (some .int)) [(0, .ref (a 1)), (1, .int (iZ b))] rfl (Nat.le_of_ble_eq_true rfl) (by decide +kernel) rfl ?_
  intro pp ee ss mm below meth cd mx mb mr mml mo mts mlk hK hP
  generalize ([.ref (a 1), .int (iZ b)] : List Value).toArray = args at mts ⊢
  obtain ⟨Q, hQ⟩ : ∃ Q, Q = MQ below (vp_Si (fun r => r = iZ (brakeOf f (ahead f b)))) args ss 0 0 (fun _ => False) := ⟨_, rfl⟩
  rw [← hQ]
  obtain ⟨⟨r0, r1, r2, r3, r4⟩, rc, rb, ⟨s0, s1, s2, s3⟩, rt, rl⟩ := id hR
  obtain ⟨w0, w1, w2, w3, w4, w5, w6⟩ := id hW
  refine z_aload_n mx mb dX1_brakeBefore_0 rfl 0 rfl ?_
  refine z_get (C := RX1) (T := TX1) (N := 6) mx mb mts (in_X1_brakeBefore_X1) mo hK (zgp hP) 1 wR_1 rfl 3 (by decide) (mts _ (List.mem_of_getElem? (i := 1) rfl)) (fun _ h9 => h9) rfl dX1_brakeBefore_1 ?_
  refine z_iload_n mx mb dX1_brakeBefore_4 rfl 1 rfl ?_
  refine z_if_le (tgt := 14) mx mb (by omega) dX1_brakeBefore_5 (by decide) (fun c5 => ?_) (fun c5 => ?_)
  · skip
    refine z_aload_n mx mb dX1_brakeBefore_14 rfl 0 rfl ?_
    refine z_get (C := RX1) (T := TX1) (N := 6) mx mb mts (in_X1_brakeBefore_X1) mo hK (zgp hP) 1 wR_1 rfl 5 (by decide) (mts _ (List.mem_of_getElem? (i := 2) rfl)) (fun _ h9 => h9) rfl dX1_brakeBefore_15 ?_
    refine z_iconst mx mb dX1_brakeBefore_18 ?_
    refine z_isub mx mb dX1_brakeBefore_19 ?_
    refine z_iald mx mb hK (zgp hP) 5 0 wR_5 rfl (by decide) (by omega) dX1_brakeBefore_20 ?_
    rw [hQ]
    exact z_retP mx mb mr mlk (by rw [show R 1 1 - 1 = f 1 - 1 by omega, (rb (f 1 - 1) (by omega) (by omega)).1]; unfold ahead; rw [if_pos (by omega)]) dX1_brakeBefore_21
  · skip
    refine z_iload_n mx mb dX1_brakeBefore_8 rfl 1 rfl ?_
    refine z_iconst mx mb dX1_brakeBefore_9 ?_
    refine z_isub mx mb dX1_brakeBefore_10 ?_
    refine z_goto (tgt := 20) mx mb dX1_brakeBefore_11 (by decide) ?_
    refine z_iald mx mb hK (zgp hP) 5 0 wR_5 rfl (by decide) (by omega) dX1_brakeBefore_20 ?_
    rw [hQ]
    exact z_retP mx mb mr mlk (by rw [(rb (b - 1) (by omega) (by omega)).1]; unfold ahead; rw [if_neg (by omega)]) dX1_brakeBefore_21

set_option maxRecDepth 100000 in
set_option maxHeartbeats 4000000 in
theorem c_X1_firstCell (l : Launch) (D : va_G) (y : Nat → ClassId) (a : Nat → Nat) (R : Nat → Int → Int) (f : Int → Int) (b : Int) (hc : 0 ≤ b ∧ b < f 1) (hR : Rel f R) (hW : Wf f) : Met l yX1_firstCell wsX1_firstCell ({ frames := 1, cells := 0, slots := 0, locals := 21 } : Room) (zPp D vwCl (zT y) (wR y a R) [.ref (a 1), .int (iZ b)]) (vp_Si (fun r => r = iZ (after f (brakeOf f (ahead f b))))) 0 0 (fun _ => False) := by
  refine z_headP (cc := cX1_firstCell) (maxL := 2) (ret := (some .int)) [(0, .ref (a 1)), (1, .int (iZ b))] rfl (Nat.le_of_ble_eq_true rfl) (by decide +kernel) rfl ?_
  intro pp ee ss mm below meth cd mx mb mr mml mo mts mlk hK hP
  generalize ([.ref (a 1), .int (iZ b)] : List Value).toArray = args at mts ⊢
  obtain ⟨Q, hQ⟩ : ∃ Q, Q = MQ below (vp_Si (fun r => r = iZ (after f (brakeOf f (ahead f b))))) args ss 0 0 (fun _ => False) := ⟨_, rfl⟩
  rw [← hQ]
  obtain ⟨⟨r0, r1, r2, r3, r4⟩, rc, rb, ⟨s0, s1, s2, s3⟩, rt, rl⟩ := id hR
  obtain ⟨w0, w1, w2, w3, w4, w5, w6⟩ := id hW
  have a1 := ahead_rng hW hc
  obtain ⟨b0, b1, b2, b3⟩ := brakeOf_spec hW a1
  refine z_aload_n mx mb dX1_firstCell_0 rfl 0 rfl ?_
  refine z_aload_n mx mb dX1_firstCell_1 rfl 0 rfl ?_
  refine z_iload_n mx mb dX1_firstCell_2 rfl 1 rfl ?_
  refine z_callP (As := [.int (iZ b)]) (rest := [.ref (a 1)]) ⟨mx, mb, mml, mo, mts⟩ hK (zgp hP) (c_X1_brakeBefore l D y a R f b (by omega) (by assumption) (by assumption)) (cwV 1 mts gX1_firstCell_X1_brakeBefore rfl rfl rfl (by decide +kernel) ⟨Nat.le_of_ble_eq_true rfl, Nat.le_of_ble_eq_true rfl⟩) (fun _ h => h) 1 wR_1 rfl rfl rfl rfl (Nat.le_of_ble_eq_true rfl) ⟨Nat.zero_le _, Nat.zero_le _⟩ dX1_firstCell_3 ?_
  refine z_callP (As := [.int (iZ (brakeOf f (ahead f b)))]) (rest := []) ⟨mx, mb, mml, mo, mts⟩ hK (zgp hP) (c_X1_nextCell l D y a R f (brakeOf f (ahead f b)) (by omega) (by assumption) (by assumption)) (cwV 1 mts gX1_firstCell_X1_nextCell rfl rfl rfl (by decide +kernel) ⟨Nat.le_of_ble_eq_true rfl, Nat.le_of_ble_eq_true rfl⟩) (fun _ h => h) 1 wR_1 rfl rfl rfl rfl (Nat.le_of_ble_eq_true rfl) ⟨Nat.zero_le _, Nat.zero_le _⟩ dX1_firstCell_6 ?_
  rw [hQ]
  exact z_retP mx mb mr mlk (by rfl) dX1_firstCell_9

theorem in_X1_blockLength_X1 : ∀ w ∈ wsX10, w ∈ wsX1_blockLength := by decide +kernel
set_option maxRecDepth 100000 in
set_option maxHeartbeats 4000000 in
theorem c_X1_blockLength (l : Launch) (D : va_G) (y : Nat → ClassId) (a : Nat → Nat) (R : Nat → Int → Int) (f : Int → Int) (b : Int) (hc : 0 ≤ b ∧ b < f 1) (hR : Rel f R) (hW : Wf f) : Met l yX1_blockLength wsX1_blockLength ({ frames := 1, cells := 0, slots := 0, locals := 21 } : Room) (zPp D vwCl (zT y) (wR y a R) [.ref (a 1), .int (iZ b)]) (vp_Si (fun r => r = iZ (cls f b (f 0).toNat))) 0 0 (fun _ => False) := by
  refine z_headP (cc := cX1_blockLength) (maxL := 3) (ret := (some .int)) [(0, .ref (a 1)), (1, .int (iZ b))] rfl (Nat.le_of_ble_eq_true rfl) (by decide +kernel) rfl ?_
  intro pp ee ss mm below meth cd mx mb mr mml mo mts mlk hK hP
  generalize ([.ref (a 1), .int (iZ b)] : List Value).toArray = args at mts ⊢
  obtain ⟨Q, hQ⟩ : ∃ Q, Q = MQ below (vp_Si (fun r => r = iZ (cls f b (f 0).toNat))) args ss 0 0 (fun _ => False) := ⟨_, rfl⟩
  rw [← hQ]
  obtain ⟨⟨r0, r1, r2, r3, r4⟩, rc, rb, ⟨s0, s1, s2, s3⟩, rt, rl⟩ := id hR
  obtain ⟨w0, w1, w2, w3, w4, w5, w6⟩ := id hW
  have a1 := ahead_rng hW hc
  obtain ⟨b0, b1, b2, b3⟩ := brakeOf_spec hW a1
  obtain ⟨d0, d1, d2, d3⟩ := brakeOf_spec hW hc
  have e1 := (rb b (by omega) (by omega)).1
  have kc := cls_len hW hc
  refine z_aload_n mx mb dX1_blockLength_0 rfl 0 rfl ?_
  refine z_get (C := RX1) (T := TX1) (N := 6) mx mb mts (in_X1_blockLength_X1) mo hK (zgp hP) 1 wR_1 rfl 3 (by decide) (mts _ (List.mem_of_getElem? (i := 1) rfl)) (fun _ h9 => h9) rfl dX1_blockLength_1 ?_
  refine z_iload_n mx mb dX1_blockLength_4 rfl 1 rfl ?_
  refine z_iald mx mb hK (zgp hP) 5 0 wR_5 rfl (by decide) (by omega) dX1_blockLength_5 ?_
  refine z_aload_n mx mb dX1_blockLength_6 rfl 0 rfl ?_
  refine z_iload_n mx mb dX1_blockLength_7 rfl 1 rfl ?_
  refine z_callP (As := [.int (iZ b)]) (rest := [.int (iZ ((R 5) b))]) ⟨mx, mb, mml, mo, mts⟩ hK (zgp hP) (c_X1_brakeBefore l D y a R f b (by omega) (by assumption) (by assumption)) (cwV 1 mts gX1_blockLength_X1_brakeBefore rfl rfl rfl (by decide +kernel) ⟨Nat.le_of_ble_eq_true rfl, Nat.le_of_ble_eq_true rfl⟩) (fun _ h => h) 1 wR_1 rfl rfl rfl rfl (Nat.le_of_ble_eq_true rfl) ⟨Nat.zero_le _, Nat.zero_le _⟩ dX1_blockLength_8 ?_
  refine z_isub mx mb dX1_blockLength_11 ?_
  refine z_istore_n mx mb dX1_blockLength_12 rfl (by decide) [(2, .int (iZ (((R 5) b) - (brakeOf f (ahead f b))))), (0, .ref (a 1)), (1, .int (iZ b))] rfl ?_
  refine z_iload_n mx mb dX1_blockLength_13 rfl 0 rfl ?_
  refine z_if_le (tgt := 21) mx mb (by omega) dX1_blockLength_14 (by decide) (fun c14 => ?_) (fun c14 => ?_)
  · skip
    refine z_iload_n mx mb dX1_blockLength_21 rfl 0 rfl ?_
    refine z_aload_n mx mb dX1_blockLength_22 rfl 1 rfl ?_
    refine z_get (C := RX1) (T := TX1) (N := 6) mx mb mts (in_X1_blockLength_X1) mo hK (zgp hP) 1 wR_1 rfl 4 (by decide) (mts _ (List.mem_of_getElem? (i := 2) rfl)) (fun _ h9 => h9) rfl dX1_blockLength_23 ?_
    refine z_iadd mx mb dX1_blockLength_26 ?_
    rw [hQ]
    exact z_retP mx mb mr mlk (by rw [kc, if_neg (by omega), e1, r0]) dX1_blockLength_27
  · skip
    refine z_iload_n mx mb dX1_blockLength_17 rfl 0 rfl ?_
    refine z_goto (tgt := 27) mx mb dX1_blockLength_18 (by decide) ?_
    rw [hQ]
    exact z_retP mx mb mr mlk (by rw [kc, if_pos (by omega), e1]) dX1_blockLength_27

theorem in_X1_greatestHeight_X1 : ∀ w ∈ wsX10, w ∈ wsX1_greatestHeight := by decide +kernel
set_option maxRecDepth 100000 in
set_option maxHeartbeats 4000000 in
theorem c_X1_greatestHeight (l : Launch) (D : va_G) (y : Nat → ClassId) (a : Nat → Nat) (R : Nat → Int → Int) (f : Int → Int) (hR : Rel f R) (hW : Wf f) : Met l yX1_greatestHeight wsX1_greatestHeight ({ frames := 1, cells := 0, slots := 0, locals := 13 } : Room) (zPp D vwCl (zT y) (wR y a R) [.ref (a 1)]) (vp_Si (fun r => r = iZ (hgh f (f 0).toNat))) 0 0 (fun _ => False) := by
  refine z_headP (cc := cX1_greatestHeight) (maxL := 3) (ret := (some .int)) [(0, .ref (a 1))] rfl (Nat.le_of_ble_eq_true rfl) (by decide +kernel) rfl ?_
  intro pp ee ss mm below meth cd mx mb mr mml mo mts mlk hK hP
  generalize ([.ref (a 1)] : List Value).toArray = args at mts ⊢
  obtain ⟨Q, hQ⟩ : ∃ Q, Q = MQ below (vp_Si (fun r => r = iZ (hgh f (f 0).toNat))) args ss 0 0 (fun _ => False) := ⟨_, rfl⟩
  rw [← hQ]
  obtain ⟨⟨r0, r1, r2, r3, r4⟩, rc, rb, ⟨s0, s1, s2, s3⟩, rt, rl⟩ := id hR
  obtain ⟨w0, w1, w2, w3, w4, w5, w6⟩ := id hW
  refine z_iconst mx mb dX1_greatestHeight_0 ?_
  refine z_istore_n mx mb dX1_greatestHeight_1 rfl (by decide) [(1, .int (iZ 0)), (0, .ref (a 1))] rfl ?_
  refine z_iconst mx mb dX1_greatestHeight_2 ?_
  refine z_istore_n mx mb dX1_greatestHeight_3 rfl (by decide) [(2, .int (iZ 0)), (1, .int (iZ 0)), (0, .ref (a 1))] rfl ?_
  have lp4 : ∀ (nn : Nat) (i : Nat) (x1 x2 : Int), (f 0).toNat - i < nn → ((i : Int) ≤ f 0) → (0 ≤ x1 ∧ x1 ≤ 9) → (x1 = hgh f i) → (x2 = (i : Int)) → Gz pp l ee ({ frames := 1, cells := 0, slots := 0, locals := 13 } : Room) ss mm args below meth cd 3 0 0 Q (Zp ss) 4 [(0, .ref (a 1)), (1, .int (iZ x1)), (2, .int (iZ x2))] [] := by
    intro nn
    induction nn with
    | zero => exact fun i x1 x2 hm => absurd hm (Nat.not_lt_zero _)
    | succ nn ih =>
      intro i x1 x2 hm hi hr e2 e3
      refine z_iload_n mx mb dX1_greatestHeight_4 rfl 2 rfl ?_
      refine z_aload_n mx mb dX1_greatestHeight_5 rfl 0 rfl ?_
      refine z_get (C := RX1) (T := TX1) (N := 6) mx mb mts (in_X1_greatestHeight_X1) mo hK (zgp hP) 1 wR_1 rfl 4 (by decide) (mts _ (List.mem_of_getElem? (i := 1) rfl)) (fun _ h9 => h9) rfl dX1_greatestHeight_6 ?_
      refine z_icmp_ge (tgt := 29) mx mb (by omega) (by omega) dX1_greatestHeight_9 (by decide) (fun c9 => ?_) (fun c9 => ?_)
      · skip
        have hi2 : i = (f 0).toNat := by omega
        refine z_iload_n mx mb dX1_greatestHeight_29 rfl 1 rfl ?_
        rw [hQ]
        exact z_retP mx mb mr mlk (by rw [e2, hi2]) dX1_greatestHeight_30
      · skip
        have k1 := w5 x2 (by omega) (by omega)
        have k2 := (rc x2 (by omega) (by omega)).1
        refine z_iload_n mx mb dX1_greatestHeight_12 rfl 1 rfl ?_
        refine z_aload_n mx mb dX1_greatestHeight_13 rfl 0 rfl ?_
        refine z_get (C := RX1) (T := TX1) (N := 6) mx mb mts (in_X1_greatestHeight_X1) mo hK (zgp hP) 1 wR_1 rfl 0 (by decide) (mts _ (List.mem_of_getElem? (i := 2) rfl)) (fun _ h9 => h9) rfl dX1_greatestHeight_14 ?_
        refine z_iload_n mx mb dX1_greatestHeight_17 rfl 2 rfl ?_
        refine z_iald mx mb hK (zgp hP) 2 0 wR_2 rfl (by decide) (by omega) dX1_greatestHeight_18 ?_
        refine z_mmax (rest := []) mx mb mml mo (mts _ (List.mem_of_getElem? (i := 3) rfl)) (mts _ (List.mem_of_getElem? (i := 4) rfl)) (mts _ (List.mem_of_getElem? (i := 5) rfl)) (mts _ (List.mem_of_getElem? (i := 6) rfl)) (Nat.le_of_ble_eq_true rfl) (Nat.le_of_ble_eq_true rfl) ⟨Nat.zero_le _, Nat.zero_le _⟩ (by omega) (by omega) dX1_greatestHeight_19 ?_
        refine z_istore_n mx mb dX1_greatestHeight_22 rfl (by decide) [(1, .int (iZ (if x1 < ((R 2) x2) then ((R 2) x2) else x1))), (0, .ref (a 1)), (2, .int (iZ x2))] rfl ?_
        refine z_iinc mx mb dX1_greatestHeight_23 2 rfl (by decide) [(2, .int (iZ (x2 + 1))), (1, .int (iZ (if x1 < ((R 2) x2) then ((R 2) x2) else x1))), (0, .ref (a 1))] rfl ?_
        refine z_goto (tgt := 4) mx mb dX1_greatestHeight_26 (by decide) ?_
        refine z_lv [2, 1, 0] rfl ?_
        exact ih (i + 1) _ _ (by omega) (by omega) (by split <;> omega) (by rw [hgh, ← e2, ← e3, k2]) (by omega)
  refine z_lv [2, 1, 0] rfl ?_
  exact lp4 _ 0 0 0 (Nat.lt_succ_self _) (by omega) (by omega) (by rfl) (by rfl)

theorem in_X1_squareBehind_X1 : ∀ w ∈ wsX10, w ∈ wsX1_squareBehind := by decide +kernel
set_option maxRecDepth 100000 in
set_option maxHeartbeats 4000000 in
theorem c_X1_squareBehind (l : Launch) (D : va_G) (y : Nat → ClassId) (a : Nat → Nat) (R : Nat → Int → Int) (f : Int → Int) (c sq dr : Int) (hc : 0 ≤ c ∧ c < f 0) (hsq : 0 ≤ sq ∧ sq ≤ 10000) (hdr : 0 ≤ dr ∧ dr ≤ 1000) (hR : Rel f R) (hW : Wf f) : Met l yX1_squareBehind wsX1_squareBehind ({ frames := 1, cells := 0, slots := 0, locals := 21 } : Room) (zPp D vwCl (zT y) (wR y a R) [.ref (a 1), .int (iZ c), .int (iZ sq), .int (iZ dr)]) (vp_Si (fun r => r = iZ (squareOn f c (after f c) sq dr))) 0 0 (fun _ => False) := by
  refine z_headP (cc := cX1_squareBehind) (maxL := 6) (ret := (some .int)) [(0, .ref (a 1)), (1, .int (iZ c)), (2, .int (iZ sq)), (3, .int (iZ dr))] rfl (Nat.le_of_ble_eq_true rfl) (by decide +kernel) rfl ?_
  intro pp ee ss mm below meth cd mx mb mr mml mo mts mlk hK hP
  generalize ([.ref (a 1), .int (iZ c), .int (iZ sq), .int (iZ dr)] : List Value).toArray = args at mts ⊢
  obtain ⟨Q, hQ⟩ : ∃ Q, Q = MQ below (vp_Si (fun r => r = iZ (squareOn f c (after f c) sq dr))) args ss 0 0 (fun _ => False) := ⟨_, rfl⟩
  rw [← hQ]
  obtain ⟨⟨r0, r1, r2, r3, r4⟩, rc, rb, ⟨s0, s1, s2, s3⟩, rt, rl⟩ := id hR
  obtain ⟨w0, w1, w2, w3, w4, w5, w6⟩ := id hW
  have ka := after_rng hW hc
  have k1 := w4 (after f c) (by omega) (by omega)
  have k2 := w5 c (by omega) (by omega)
  have k3 := w5 (after f c) (by omega) (by omega)
  have e1 := rc (after f c) (by omega) (by omega)
  have e2 := rc c (by omega) (by omega)
  refine z_aload_n mx mb dX1_squareBehind_0 rfl 0 rfl ?_
  refine z_iload_n mx mb dX1_squareBehind_1 rfl 1 rfl ?_
  refine z_callP (As := [.int (iZ c)]) (rest := []) ⟨mx, mb, mml, mo, mts⟩ hK (zgp hP) (c_X1_nextCell l D y a R f c (by omega) (by assumption) (by assumption)) (cwV 1 mts gX1_squareBehind_X1_nextCell rfl rfl rfl (by decide +kernel) ⟨Nat.le_of_ble_eq_true rfl, Nat.le_of_ble_eq_true rfl⟩) (fun _ h => h) 1 wR_1 rfl rfl rfl rfl (Nat.le_of_ble_eq_true rfl) ⟨Nat.zero_le _, Nat.zero_le _⟩ dX1_squareBehind_2 ?_
  refine z_istore mx mb dX1_squareBehind_5 (by decide) [(4, .int (iZ (after f c))), (0, .ref (a 1)), (1, .int (iZ c)), (2, .int (iZ sq)), (3, .int (iZ dr))] rfl ?_
  refine z_aload_n mx mb dX1_squareBehind_7 rfl 1 rfl ?_
  refine z_get (C := RX1) (T := TX1) (N := 6) mx mb mts (in_X1_squareBehind_X1) mo hK (zgp hP) 1 wR_1 rfl 1 (by decide) (mts _ (List.mem_of_getElem? (i := 1) rfl)) (fun _ h9 => h9) rfl dX1_squareBehind_8 ?_
  refine z_iload mx mb dX1_squareBehind_11 0 rfl ?_
  refine z_iald mx mb hK (zgp hP) 3 0 wR_3 rfl (by decide) (by omega) dX1_squareBehind_13 ?_
  refine z_iconst mx mb dX1_squareBehind_14 ?_
  refine z_icmp_ne (tgt := 21) mx mb (by omega) (by omega) dX1_squareBehind_15 (by decide) (fun c15 => ?_) (fun c15 => ?_)
  · skip
    refine z_bipush mx mb dX1_squareBehind_21 (by decide +kernel) ?_
    refine z_aload_n mx mb dX1_squareBehind_23 rfl 1 rfl ?_
    refine z_get (C := RX1) (T := TX1) (N := 6) mx mb mts (in_X1_squareBehind_X1) mo hK (zgp hP) 1 wR_1 rfl 0 (by decide) (mts _ (List.mem_of_getElem? (i := 2) rfl)) (fun _ h9 => h9) rfl dX1_squareBehind_24 ?_
    refine z_iload_n mx mb dX1_squareBehind_27 rfl 2 rfl ?_
    refine z_iald mx mb hK (zgp hP) 2 0 wR_2 rfl (by decide) (by omega) dX1_squareBehind_28 ?_
    refine z_aload_n mx mb dX1_squareBehind_29 rfl 1 rfl ?_
    refine z_get (C := RX1) (T := TX1) (N := 6) mx mb mts (in_X1_squareBehind_X1) mo hK (zgp hP) 1 wR_1 rfl 0 (by decide) (mts _ (List.mem_of_getElem? (i := 2) rfl)) (fun _ h9 => h9) rfl dX1_squareBehind_30 ?_
    refine z_iload mx mb dX1_squareBehind_33 0 rfl ?_
    refine z_iald mx mb hK (zgp hP) 2 0 wR_2 rfl (by decide) (by omega) dX1_squareBehind_35 ?_
    refine z_isub mx mb dX1_squareBehind_36 ?_
    refine z_imul mx mb dX1_squareBehind_37 ?_
    refine z_iload_n mx mb dX1_squareBehind_38 rfl 4 rfl ?_
    refine z_isub mx mb dX1_squareBehind_39 ?_
    refine z_istore mx mb dX1_squareBehind_40 (by decide) [(5, .int (iZ ((100 * (((R 2) c) - ((R 2) (after f c)))) - dr))), (4, .int (iZ (after f c))), (0, .ref (a 1)), (1, .int (iZ c)), (2, .int (iZ sq)), (3, .int (iZ dr))] rfl ?_
    refine z_iload_n mx mb dX1_squareBehind_42 rfl 4 rfl ?_
    refine z_iload mx mb dX1_squareBehind_43 0 rfl ?_
    refine z_iadd mx mb dX1_squareBehind_45 ?_
    refine z_sipush mx mb dX1_squareBehind_46 (by decide +kernel) ?_
    refine z_mmin (rest := []) mx mb mml mo (mts _ (List.mem_of_getElem? (i := 3) rfl)) (mts _ (List.mem_of_getElem? (i := 4) rfl)) (mts _ (List.mem_of_getElem? (i := 5) rfl)) (mts _ (List.mem_of_getElem? (i := 6) rfl)) (Nat.le_of_ble_eq_true rfl) (Nat.le_of_ble_eq_true rfl) ⟨Nat.zero_le _, Nat.zero_le _⟩ (by omega) (by omega) dX1_squareBehind_49 ?_
    rw [hQ]
    exact z_retP mx mb mr mlk (by rw [squareOn, show sqr f c (after f c) sq dr = sq + 100 * f (11 + c) - 100 * f (11 + after f c) - dr from (by unfold sqr; rw [if_neg (by omega)])]; split <;> split <;> omega) dX1_squareBehind_52
  · skip
    refine z_bipush mx mb dX1_squareBehind_18 (by decide +kernel) ?_
    rw [hQ]
    exact z_retP mx mb mr mlk (by rw [squareOn, show sqr f c (after f c) sq dr = 25 from (by unfold sqr; rw [if_pos (by omega)]), if_neg (by omega)]) dX1_squareBehind_20

theorem in_X1_isValley_X1 : ∀ w ∈ wsX10, w ∈ wsX1_isValley := by decide +kernel
set_option maxRecDepth 100000 in
set_option maxHeartbeats 4000000 in
theorem c_X1_isValley (l : Launch) (D : va_G) (y : Nat → ClassId) (a : Nat → Nat) (R : Nat → Int → Int) (f : Int → Int) (c sq : Int) (hc : 0 ≤ c ∧ c < f 0) (hsq : -10000 ≤ sq ∧ sq ≤ 10000) (hR : Rel f R) (hW : Wf f) : Met l yX1_isValley wsX1_isValley ({ frames := 0, cells := 0, slots := 0, locals := 0 } : Room) (zPp D vwCl (zT y) (wR y a R) [.ref (a 1), .int (iZ c), .int (iZ sq)]) (vp_Si (fun r => r = iZ (b2z (sq = 0 ∧ f (41 + c) = 0)))) 0 0 (fun _ => False) := by
  refine z_headP (cc := cX1_isValley) (maxL := 3) (ret := (some .boolean)) [(0, .ref (a 1)), (1, .int (iZ c)), (2, .int (iZ sq))] rfl (Nat.le_of_ble_eq_true rfl) (by decide +kernel) rfl ?_
  intro pp ee ss mm below meth cd mx mb mr mml mo mts mlk hK hP
  generalize ([.ref (a 1), .int (iZ c), .int (iZ sq)] : List Value).toArray = args at mts ⊢
  obtain ⟨Q, hQ⟩ : ∃ Q, Q = MQ below (vp_Si (fun r => r = iZ (b2z (sq = 0 ∧ f (41 + c) = 0)))) args ss 0 0 (fun _ => False) := ⟨_, rfl⟩
  rw [← hQ]
  obtain ⟨⟨r0, r1, r2, r3, r4⟩, rc, rb, ⟨s0, s1, s2, s3⟩, rt, rl⟩ := id hR
  obtain ⟨w0, w1, w2, w3, w4, w5, w6⟩ := id hW
  have k1 := w4 c (by omega) (by omega)
  have e2 := rc c (by omega) (by omega)
  refine z_iload_n mx mb dX1_isValley_0 rfl 2 rfl ?_
  refine z_if_ne (tgt := 17) mx mb (by omega) dX1_isValley_1 (by decide) (fun c1 => ?_) (fun c1 => ?_)
  · skip
    refine z_iconst mx mb dX1_isValley_17 ?_
    rw [hQ]
    exact z_retB mx mb mr mlk (by first | exact (b2z_t (by omega)).symm | exact (b2z_f (by omega)).symm) dX1_isValley_18
  · skip
    refine z_aload_n mx mb dX1_isValley_4 rfl 0 rfl ?_
    refine z_get (C := RX1) (T := TX1) (N := 6) mx mb mts (in_X1_isValley_X1) mo hK (zgp hP) 1 wR_1 rfl 1 (by decide) (mts _ (List.mem_of_getElem? (i := 1) rfl)) (fun _ h9 => h9) rfl dX1_isValley_5 ?_
    refine z_iload_n mx mb dX1_isValley_8 rfl 1 rfl ?_
    refine z_iald mx mb hK (zgp hP) 3 0 wR_3 rfl (by decide) (by omega) dX1_isValley_9 ?_
    refine z_if_ne (tgt := 17) mx mb (by omega) dX1_isValley_10 (by decide) (fun c10 => ?_) (fun c10 => ?_)
    · skip
      refine z_iconst mx mb dX1_isValley_17 ?_
      rw [hQ]
      exact z_retB mx mb mr mlk (by first | exact (b2z_t (by omega)).symm | exact (b2z_f (by omega)).symm) dX1_isValley_18
    · skip
      refine z_iconst mx mb dX1_isValley_13 ?_
      refine z_goto (tgt := 18) mx mb dX1_isValley_14 (by decide) ?_
      rw [hQ]
      exact z_retB mx mb mr mlk (by first | exact (b2z_t (by omega)).symm | exact (b2z_f (by omega)).symm) dX1_isValley_18

theorem in_X1_comesToBrake_X1 : ∀ w ∈ wsX10, w ∈ wsX1_comesToBrake := by decide +kernel
set_option maxRecDepth 100000 in
set_option maxHeartbeats 4000000 in
theorem c_X1_comesToBrake (l : Launch) (D : va_G) (y : Nat → ClassId) (a : Nat → Nat) (R : Nat → Int → Int) (f : Int → Int) (c v dr : Int) (hc : 0 ≤ c ∧ c < f 0) (hv : 0 ≤ v ∧ v ≤ 10000) (hdr : 0 ≤ dr ∧ dr ≤ 1000) (hR : Rel f R) (hW : Wf f) : Met l yX1_comesToBrake wsX1_comesToBrake ({ frames := 2, cells := 0, slots := 0, locals := 46 } : Room) (zPp D vwCl (zT y) (wR y a R) [.ref (a 1), .int (iZ c), .int (iZ v), .int (iZ dr)]) (vp_Si (fun r => r = iZ (b2z (cb f dr 30 c v = true)))) 0 0 (fun _ => False) := by
  refine z_headP (cc := cX1_comesToBrake) (maxL := 7) (ret := (some .boolean)) [(0, .ref (a 1)), (1, .int (iZ c)), (2, .int (iZ v)), (3, .int (iZ dr))] rfl (Nat.le_of_ble_eq_true rfl) (by decide +kernel) rfl ?_
  intro pp ee ss mm below meth cd mx mb mr mml mo mts mlk hK hP
  generalize ([.ref (a 1), .int (iZ c), .int (iZ v), .int (iZ dr)] : List Value).toArray = args at mts ⊢
  obtain ⟨Q, hQ⟩ : ∃ Q, Q = MQ below (vp_Si (fun r => r = iZ (b2z (cb f dr 30 c v = true)))) args ss 0 0 (fun _ => False) := ⟨_, rfl⟩
  rw [← hQ]
  obtain ⟨⟨r0, r1, r2, r3, r4⟩, rc, rb, ⟨s0, s1, s2, s3⟩, rt, rl⟩ := id hR
  obtain ⟨w0, w1, w2, w3, w4, w5, w6⟩ := id hW
  have d0 := dist_rng hW hc
  refine z_iload_n mx mb dX1_comesToBrake_0 rfl 1 rfl ?_
  refine z_istore mx mb dX1_comesToBrake_1 (by decide) [(4, .int (iZ c)), (0, .ref (a 1)), (1, .int (iZ c)), (2, .int (iZ v)), (3, .int (iZ dr))] rfl ?_
  refine z_iload_n mx mb dX1_comesToBrake_3 rfl 3 rfl ?_
  refine z_istore mx mb dX1_comesToBrake_4 (by decide) [(5, .int (iZ v)), (4, .int (iZ c)), (0, .ref (a 1)), (1, .int (iZ c)), (2, .int (iZ v)), (3, .int (iZ dr))] rfl ?_
  refine z_iconst mx mb dX1_comesToBrake_6 ?_
  refine z_istore mx mb dX1_comesToBrake_7 (by decide) [(6, .int (iZ 0)), (5, .int (iZ v)), (4, .int (iZ c)), (0, .ref (a 1)), (1, .int (iZ c)), (2, .int (iZ v)), (3, .int (iZ dr))] rfl ?_
  have lp9 : ∀ (nn : Nat) (k : Nat) (x4 x5 x6 : Int), k < nn → (0 ≤ x4 ∧ x4 < f 0) → (0 ≤ x5 ∧ x5 ≤ 10000) → (dist f x4 ≤ k ∧ k ≤ 30 ∧ dist f x4 < f 0 - x6) → (0 ≤ x6 ∧ x6 ≤ 30) → (cb f dr k x4 x5 = cb f dr 30 c v) → Gz pp l ee ({ frames := 2, cells := 0, slots := 0, locals := 46 } : Room) ss mm args below meth cd 7 0 0 Q (Zp ss) 9 [(0, .ref (a 1)), (1, .int (iZ c)), (2, .int (iZ v)), (3, .int (iZ dr)), (4, .int (iZ x4)), (5, .int (iZ x5)), (6, .int (iZ x6))] [] := by
    intro nn
    induction nn with
    | zero => exact fun k x4 x5 x6 hm => absurd hm (Nat.not_lt_zero _)
    | succ nn ih =>
      intro k x4 x5 x6 hm h3 h4 hd h6 he
      have k1 := w4 x4 (by omega) (by omega)
      have e1 := rc x4 (by omega) (by omega)
      have dz := dist_rng hW h3
      refine z_iload mx mb dX1_comesToBrake_9 6 rfl ?_
      refine z_aload_n mx mb dX1_comesToBrake_11 rfl 0 rfl ?_
      refine z_get (C := RX1) (T := TX1) (N := 6) mx mb mts (in_X1_comesToBrake_X1) mo hK (zgp hP) 1 wR_1 rfl 4 (by decide) (mts _ (List.mem_of_getElem? (i := 1) rfl)) (fun _ h9 => h9) rfl dX1_comesToBrake_12 ?_
      refine z_icmp_ge (tgt := 72) mx mb (by omega) (by omega) dX1_comesToBrake_15 (by decide) (fun c15 => ?_) (fun c15 => ?_)
      · skip
        refine z_iconst mx mb dX1_comesToBrake_72 ?_
        rw [hQ]
        exact z_retB mx mb mr mlk (by exact absurd c15 (by omega)) dX1_comesToBrake_73
      · skip
        refine z_aload_n mx mb dX1_comesToBrake_18 rfl 0 rfl ?_
        refine z_get (C := RX1) (T := TX1) (N := 6) mx mb mts (in_X1_comesToBrake_X1) mo hK (zgp hP) 1 wR_1 rfl 1 (by decide) (mts _ (List.mem_of_getElem? (i := 2) rfl)) (fun _ h9 => h9) rfl dX1_comesToBrake_19 ?_
        refine z_iload mx mb dX1_comesToBrake_22 4 rfl ?_
        refine z_iald mx mb hK (zgp hP) 3 0 wR_3 rfl (by decide) (by omega) dX1_comesToBrake_24 ?_
        refine z_iconst mx mb dX1_comesToBrake_25 ?_
        refine z_icmp_eq (tgt := 72) mx mb (by omega) (by omega) dX1_comesToBrake_26 (by decide) (fun c26 => ?_) (fun c26 => ?_)
        · skip
          refine z_iconst mx mb dX1_comesToBrake_72 ?_
          rw [hQ]
          exact z_retB mx mb mr mlk (by rw [← he]; cases k with
    | zero => rfl
    | succ k => rw [cb, if_pos (by rw [← e1.2.1]; exact c26)]; rfl) dX1_comesToBrake_73
        · skip
          have kk : f (41 + x4) ≠ 2 := by rw [← e1.2.1]; exact c26
          obtain ⟨k, rfl⟩ : ∃ j, k = j + 1 := ⟨k - 1, by have := dist_0 hW h3 kk; omega⟩
          have k2 := after_rng hW h3
          have k3 := dist_step hW h3 kk
          have k4 := squareOn_up (sq := x5) (d := dr) hW (show 0 ≤ x4 ∧ x4 < 30 by omega) (show 0 ≤ after f x4 ∧ after f x4 < 30 by omega)
          have k5 := k4.2 h4.1 (by omega)
          refine z_aload_n mx mb dX1_comesToBrake_29 rfl 0 rfl ?_
          refine z_iload mx mb dX1_comesToBrake_30 4 rfl ?_
          refine z_iload mx mb dX1_comesToBrake_32 5 rfl ?_
          refine z_iload_n mx mb dX1_comesToBrake_34 rfl 3 rfl ?_
          refine z_callP (As := [.int (iZ x4), .int (iZ x5), .int (iZ dr)]) (rest := []) ⟨mx, mb, mml, mo, mts⟩ hK (zgp hP) (c_X1_squareBehind l D y a R f x4 x5 dr (by omega) (by omega) (by omega) (by assumption) (by assumption)) (cwV 3 mts gX1_comesToBrake_X1_squareBehind rfl rfl rfl (by decide +kernel) ⟨Nat.le_of_ble_eq_true rfl, Nat.le_of_ble_eq_true rfl⟩) (fun _ h => h) 1 wR_1 rfl rfl rfl rfl (Nat.le_of_ble_eq_true rfl) ⟨Nat.zero_le _, Nat.zero_le _⟩ dX1_comesToBrake_35 ?_
          refine z_istore mx mb dX1_comesToBrake_38 (by decide) [(5, .int (iZ (squareOn f x4 (after f x4) x5 dr))), (0, .ref (a 1)), (1, .int (iZ c)), (2, .int (iZ v)), (3, .int (iZ dr)), (4, .int (iZ x4)), (6, .int (iZ x6))] rfl ?_
          refine z_aload_n mx mb dX1_comesToBrake_40 rfl 1 rfl ?_
          refine z_iload mx mb dX1_comesToBrake_41 5 rfl ?_
          refine z_callP (As := [.int (iZ x4)]) (rest := []) ⟨mx, mb, mml, mo, mts⟩ hK (zgp hP) (c_X1_nextCell l D y a R f x4 (by omega) (by assumption) (by assumption)) (cwV 1 mts gX1_comesToBrake_X1_nextCell rfl rfl rfl (by decide +kernel) ⟨Nat.le_of_ble_eq_true rfl, Nat.le_of_ble_eq_true rfl⟩) (fun _ h => h) 1 wR_1 rfl rfl rfl rfl (Nat.le_of_ble_eq_true rfl) ⟨Nat.zero_le _, Nat.zero_le _⟩ dX1_comesToBrake_43 ?_
          refine z_istore mx mb dX1_comesToBrake_46 (by decide) [(4, .int (iZ (after f x4))), (5, .int (iZ (squareOn f x4 (after f x4) x5 dr))), (0, .ref (a 1)), (1, .int (iZ c)), (2, .int (iZ v)), (3, .int (iZ dr)), (6, .int (iZ x6))] rfl ?_
          refine z_iload mx mb dX1_comesToBrake_48 1 rfl ?_
          refine z_if_lt (tgt := 64) mx mb (by omega) dX1_comesToBrake_50 (by decide) (fun c50 => ?_) (fun c50 => ?_)
          · skip
            refine z_iconst mx mb dX1_comesToBrake_64 ?_
            rw [hQ]
            exact z_retB mx mb mr mlk (by rw [← he, cb, if_neg (by rw [← e1.2.1]; exact c26), if_pos (Or.inl c50)]; rfl) dX1_comesToBrake_65
          · skip
            refine z_aload_n mx mb dX1_comesToBrake_53 rfl 2 rfl ?_
            refine z_iload mx mb dX1_comesToBrake_54 0 rfl ?_
            refine z_iload mx mb dX1_comesToBrake_56 1 rfl ?_
            refine z_callP (As := [.int (iZ (after f x4)), .int (iZ (squareOn f x4 (after f x4) x5 dr))]) (rest := []) ⟨mx, mb, mml, mo, mts⟩ hK (zgp hP) (c_X1_isValley l D y a R f (after f x4) (squareOn f x4 (after f x4) x5 dr) (by omega) (by omega) (by assumption) (by assumption)) (cwV 2 mts gX1_comesToBrake_X1_isValley rfl rfl rfl (by decide +kernel) ⟨Nat.le_of_ble_eq_true rfl, Nat.le_of_ble_eq_true rfl⟩) (fun _ h => h) 1 wR_1 rfl rfl rfl rfl (Nat.le_of_ble_eq_true rfl) ⟨Nat.zero_le _, Nat.zero_le _⟩ dX1_comesToBrake_58 ?_
            refine z_if_eq (tgt := 66) mx mb (b2z_rng _) dX1_comesToBrake_61 (by decide) (fun c61 => ?_) (fun c61 => ?_)
            · skip
              refine z_iinc mx mb dX1_comesToBrake_66 6 rfl (by decide) [(6, .int (iZ (x6 + 1))), (4, .int (iZ (after f x4))), (5, .int (iZ (squareOn f x4 (after f x4) x5 dr))), (0, .ref (a 1)), (1, .int (iZ c)), (2, .int (iZ v)), (3, .int (iZ dr))] rfl ?_
              refine z_goto (tgt := 9) mx mb dX1_comesToBrake_69 (by decide) ?_
              refine z_lv [3, 4, 5, 6, 1, 2, 0] rfl ?_
              exact ih k _ _ _ (by omega) (by exact k2) (by omega) (by omega) (by omega) (by rw [← he, cb, if_neg (by rw [← e1.2.1]; exact c26), if_neg (fun q => q.elim (fun z => absurd z (by omega)) (fun z => b2z_e c61 z))])
            · skip
              refine z_iconst mx mb dX1_comesToBrake_64 ?_
              rw [hQ]
              exact z_retB mx mb mr mlk (by rw [← he, cb, if_neg (by rw [← e1.2.1]; exact c26), if_pos (Or.inr (b2z_ne c61))]; rfl) dX1_comesToBrake_65
  refine z_lv [3, 4, 5, 6, 2, 1, 0] rfl ?_
  exact lp9 _ 30 c v 0 (Nat.lt_succ_self _) (by exact hc) (by exact hv) (by omega) (by omega) (by rfl)

theorem in_X0_blockOf_X0 : ∀ w ∈ wsX00, w ∈ wsX0_blockOf := by decide +kernel
theorem in_X0_blockOf_X1 : ∀ w ∈ wsX10, w ∈ wsX0_blockOf := by decide +kernel
theorem in_X0_blockOf_X3 : ∀ w ∈ wsX30, w ∈ wsX0_blockOf := by decide +kernel
set_option maxRecDepth 100000 in
set_option maxHeartbeats 4000000 in
theorem c_X0_blockOf (l : Launch) (D : va_G) (y : Nat → ClassId) (a : Nat → Nat) (R : Nat → Int → Int) (f : Int → Int) (t : Nat) (ht : (t : Int) < f 2 ∧ t < 4) (hR : Rel f R) (hW : Wf f) : Met l yX0_blockOf wsX0_blockOf ({ frames := 0, cells := 0, slots := 0, locals := 0 } : Room) (zPp D vwCl (zT y) (wR y a R) [.ref (a 0), .ref (a (8 + t))]) (vp_Si (fun r => r = iZ (blockAt f (f (79 + 8 * (t : Int) + 0))))) 0 0 (fun _ => False) := by
  refine z_headP (cc := cX0_blockOf) (maxL := 2) (ret := (some .int)) [(0, .ref (a 0)), (1, .ref (a (8 + t)))] rfl (Nat.le_of_ble_eq_true rfl) (by decide +kernel) rfl ?_
  intro pp ee ss mm below meth cd mx mb mr mml mo mts mlk hK hP
  generalize ([.ref (a 0), .ref (a (8 + t))] : List Value).toArray = args at mts ⊢
  obtain ⟨Q, hQ⟩ : ∃ Q, Q = MQ below (vp_Si (fun r => r = iZ (blockAt f (f (79 + 8 * (t : Int) + 0))))) args ss 0 0 (fun _ => False) := ⟨_, rfl⟩
  rw [← hQ]
  obtain ⟨⟨r0, r1, r2, r3, r4⟩, rc, rb, ⟨s0, s1, s2, s3⟩, rt, rl⟩ := id hR
  obtain ⟨w0, w1, w2, w3, w4, w5, w6⟩ := id hW
  have et : ∀ k : Int, 0 ≤ k → k < 8 → R (8 + t) k = f (79 + 8 * (t : Int) + k) := rt t ht.1
  have q0 := w6 (t : Int) (by omega) (by omega)
  have e0 := et 0 (by omega) (by omega)
  have e1 := (rc (R (8 + t) 0) (by omega) (by omega)).2.2
  refine z_aload_n mx mb dX0_blockOf_0 rfl 0 rfl ?_
  refine z_get (C := RX0) (T := TX0) (N := 9) mx mb mts (in_X0_blockOf_X0) mo hK (zgp hP) 0 wR_0 rfl 0 (by decide) (mts _ (List.mem_of_getElem? (i := 1) rfl)) (fun _ h9 => h9) rfl dX0_blockOf_1 ?_
  refine z_get (C := RX1) (T := TX1) (N := 6) mx mb mts (in_X0_blockOf_X1) mo hK (zgp hP) 1 wR_1 rfl 2 (by decide) (mts _ (List.mem_of_getElem? (i := 2) rfl)) (fun _ h9 => h9) rfl dX0_blockOf_4 ?_
  refine z_aload_n mx mb dX0_blockOf_7 rfl 1 rfl ?_
  refine z_get (C := RX3) (T := TX3) (N := 8) mx mb mts (in_X0_blockOf_X3) mo hK (zgp hP) (8 + t) (wR_t (by omega)) rfl 0 (by decide) (mts _ (List.mem_of_getElem? (i := 3) rfl)) (fun _ h9 => h9) rfl dX0_blockOf_8 ?_
  refine z_iald mx mb hK (zgp hP) 4 0 wR_4 rfl (by decide) (by omega) dX0_blockOf_11 ?_
  rw [hQ]
  exact z_retP mx mb mr mlk (by rw [e1, e0]) dX0_blockOf_12

theorem in_X0_dragOf_X0 : ∀ w ∈ wsX00, w ∈ wsX0_dragOf := by decide +kernel
theorem in_X0_dragOf_X3 : ∀ w ∈ wsX30, w ∈ wsX0_dragOf := by decide +kernel
set_option maxRecDepth 100000 in
set_option maxHeartbeats 4000000 in
theorem c_X0_dragOf (l : Launch) (D : va_G) (y : Nat → ClassId) (a : Nat → Nat) (R : Nat → Int → Int) (f : Int → Int) (t : Nat) (ht : (t : Int) < f 2 ∧ t < 4) (hw : 0 ≤ f (79 + 8 * (t : Int) + 3) ∧ f (79 + 8 * (t : Int) + 3) ≤ 1000) (hR : Rel f R) (hW : Wf f) : Met l yX0_dragOf wsX0_dragOf ({ frames := 0, cells := 0, slots := 0, locals := 0 } : Room) (zPp D vwCl (zT y) (wR y a R) [.ref (a 0), .ref (a (8 + t))]) (vp_Si (fun r => r = iZ (drag f (t : Int)))) 0 0 (fun _ => False) := by
  refine z_headP (cc := cX0_dragOf) (maxL := 3) (ret := (some .int)) [(0, .ref (a 0)), (1, .ref (a (8 + t)))] rfl (Nat.le_of_ble_eq_true rfl) (by decide +kernel) rfl ?_
  intro pp ee ss mm below meth cd mx mb mr mml mo mts mlk hK hP
  generalize ([.ref (a 0), .ref (a (8 + t))] : List Value).toArray = args at mts ⊢
  obtain ⟨Q, hQ⟩ : ∃ Q, Q = MQ below (vp_Si (fun r => r = iZ (drag f (t : Int)))) args ss 0 0 (fun _ => False) := ⟨_, rfl⟩
  rw [← hQ]
  obtain ⟨⟨r0, r1, r2, r3, r4⟩, rc, rb, ⟨s0, s1, s2, s3⟩, rt, rl⟩ := id hR
  obtain ⟨w0, w1, w2, w3, w4, w5, w6⟩ := id hW
  have et : ∀ k : Int, 0 ≤ k → k < 8 → R (8 + t) k = f (79 + 8 * (t : Int) + k) := rt t ht.1
  have q0 := w6 (t : Int) (by omega) (by omega)
  have e0 := et 3 (by omega) (by omega)
  refine z_aload_n mx mb dX0_dragOf_0 rfl 1 rfl ?_
  refine z_get (C := RX3) (T := TX3) (N := 8) mx mb mts (in_X0_dragOf_X3) mo hK (zgp hP) (8 + t) (wR_t (by omega)) rfl 3 (by decide) (mts _ (List.mem_of_getElem? (i := 1) rfl)) (fun _ h9 => h9) rfl dX0_dragOf_1 ?_
  refine z_bipush mx mb dX0_dragOf_4 (by decide +kernel) ?_
  refine z_icmp_ge (tgt := 22) mx mb (by omega) (by omega) dX0_dragOf_6 (by decide) (fun c6 => ?_) (fun c6 => ?_)
  · skip
    refine z_iconst mx mb dX0_dragOf_22 ?_
    refine z_istore_n mx mb dX0_dragOf_23 rfl (by decide) [(2, .int (iZ 0)), (0, .ref (a 0)), (1, .ref (a (8 + t)))] rfl ?_
    refine z_aload_n mx mb dX0_dragOf_24 rfl 1 rfl ?_
    refine z_get (C := RX0) (T := TX0) (N := 9) mx mb mts (in_X0_dragOf_X0) mo hK (zgp hP) 0 wR_0 rfl 2 (by decide) (mts _ (List.mem_of_getElem? (i := 2) rfl)) (fun _ h9 => h9) rfl dX0_dragOf_25 ?_
    refine z_iconst mx mb dX0_dragOf_28 ?_
    refine z_iald mx mb hK (zgp hP) 7 0 wR_7 rfl (by decide) (by omega) dX0_dragOf_29 ?_
    refine z_iload_n mx mb dX0_dragOf_30 rfl 0 rfl ?_
    refine z_iadd mx mb dX0_dragOf_31 ?_
    rw [hQ]
    exact z_retP mx mb mr mlk (by unfold drag; rw [← e0, s0]; first | (rw [if_pos (by omega)]; done) | (rw [if_neg (by omega)]; done)) dX0_dragOf_32
  · skip
    refine z_bipush mx mb dX0_dragOf_9 (by decide +kernel) ?_
    refine z_aload_n mx mb dX0_dragOf_11 rfl 1 rfl ?_
    refine z_get (C := RX3) (T := TX3) (N := 8) mx mb mts (in_X0_dragOf_X3) mo hK (zgp hP) (8 + t) (wR_t (by omega)) rfl 3 (by decide) (mts _ (List.mem_of_getElem? (i := 1) rfl)) (fun _ h9 => h9) rfl dX0_dragOf_12 ?_
    refine z_isub mx mb dX0_dragOf_15 ?_
    refine z_bipush mx mb dX0_dragOf_16 (by decide +kernel) ?_
    refine z_idiv mx mb (by omega) (by omega) dX0_dragOf_18 ?_
    refine z_goto (tgt := 23) mx mb dX0_dragOf_19 (by decide) ?_
    refine z_istore_n mx mb dX0_dragOf_23 rfl (by decide) [(2, .int (iZ ((60 - (R (8 + t) 3)) / 10))), (0, .ref (a 0)), (1, .ref (a (8 + t)))] rfl ?_
    refine z_aload_n mx mb dX0_dragOf_24 rfl 1 rfl ?_
    refine z_get (C := RX0) (T := TX0) (N := 9) mx mb mts (in_X0_dragOf_X0) mo hK (zgp hP) 0 wR_0 rfl 2 (by decide) (mts _ (List.mem_of_getElem? (i := 2) rfl)) (fun _ h9 => h9) rfl dX0_dragOf_25 ?_
    refine z_iconst mx mb dX0_dragOf_28 ?_
    refine z_iald mx mb hK (zgp hP) 7 0 wR_7 rfl (by decide) (by omega) dX0_dragOf_29 ?_
    refine z_iload_n mx mb dX0_dragOf_30 rfl 0 rfl ?_
    refine z_iadd mx mb dX0_dragOf_31 ?_
    rw [hQ]
    exact z_retP mx mb mr mlk (by unfold drag; rw [← e0, s0]; first | (rw [if_pos (by omega)]; done) | (rw [if_neg (by omega)]; done)) dX0_dragOf_32

theorem in_X0_trainOnCell_X0 : ∀ w ∈ wsX00, w ∈ wsX0_trainOnCell := by decide +kernel
theorem in_X0_trainOnCell_X3 : ∀ w ∈ wsX30, w ∈ wsX0_trainOnCell := by decide +kernel
set_option maxRecDepth 100000 in
set_option maxHeartbeats 4000000 in
theorem c_X0_trainOnCell (l : Launch) (D : va_G) (y : Nat → ClassId) (a : Nat → Nat) (R : Nat → Int → Int) (f : Int → Int) (c : Int) (hc : 0 ≤ c ∧ c < f 0) (hA : Ap f) (hR : Rel f R) (hW : Wf f) : Met l yX0_trainOnCell wsX0_trainOnCell ({ frames := 0, cells := 0, slots := 0, locals := 0 } : Room) (zPp D vwCl (zT y) (wR y a R) [.ref (a 0), .int (iZ c)]) (vp_Si (fun r => r = iZ (tro f c (f 2).toNat))) 0 0 (fun _ => False) := by
  refine z_headP (cc := cX0_trainOnCell) (maxL := 3) (ret := (some .int)) [(0, .ref (a 0)), (1, .int (iZ c))] rfl (Nat.le_of_ble_eq_true rfl) (by decide +kernel) rfl ?_
  intro pp ee ss mm below meth cd mx mb mr mml mo mts mlk hK hP
  generalize ([.ref (a 0), .int (iZ c)] : List Value).toArray = args at mts ⊢
  obtain ⟨Q, hQ⟩ : ∃ Q, Q = MQ below (vp_Si (fun r => r = iZ (tro f c (f 2).toNat))) args ss 0 0 (fun _ => False) := ⟨_, rfl⟩
  rw [← hQ]
  obtain ⟨⟨r0, r1, r2, r3, r4⟩, rc, rb, ⟨s0, s1, s2, s3⟩, rt, rl⟩ := id hR
  obtain ⟨w0, w1, w2, w3, w4, w5, w6⟩ := id hW
  refine z_iconst mx mb dX0_trainOnCell_0 ?_
  refine z_istore_n mx mb dX0_trainOnCell_1 rfl (by decide) [(2, .int (iZ 0)), (0, .ref (a 0)), (1, .int (iZ c))] rfl ?_
  have lp2 : ∀ (nn : Nat) (i : Nat) (x2 : Int), (f 2).toNat - i < nn → ((i : Int) ≤ f 2) → (x2 = (i : Int)) → (∀ j : Nat, j < i → f (79 + 8 * (j : Int) + 0) ≠ c) → Gz pp l ee ({ frames := 0, cells := 0, slots := 0, locals := 0 } : Room) ss mm args below meth cd 3 0 0 Q (Zp ss) 2 [(0, .ref (a 0)), (1, .int (iZ c)), (2, .int (iZ x2))] [] := by
    intro nn
    induction nn with
    | zero => exact fun i x2 hm => absurd hm (Nat.not_lt_zero _)
    | succ nn ih =>
      intro i x2 hm hi e3 hn
      refine z_iload_n mx mb dX0_trainOnCell_2 rfl 2 rfl ?_
      refine z_aload_n mx mb dX0_trainOnCell_3 rfl 0 rfl ?_
      refine z_get (C := RX0) (T := TX0) (N := 9) mx mb mts (in_X0_trainOnCell_X0) mo hK (zgp hP) 0 wR_0 rfl 6 (by decide) (mts _ (List.mem_of_getElem? (i := 1) rfl)) (fun _ h9 => h9) rfl dX0_trainOnCell_4 ?_
      refine z_icmp_ge (tgt := 31) mx mb (by omega) (by omega) dX0_trainOnCell_7 (by decide) (fun c7 => ?_) (fun c7 => ?_)
      · skip
        refine z_iconst mx mb dX0_trainOnCell_31 ?_
        rw [hQ]
        exact z_retP mx mb mr mlk (by exact (tro_none (fun j hj => hn j (by omega))).symm) dX0_trainOnCell_32
      · skip
        have e0 := rt i (by omega) 0 (by omega) (by omega)
        have k1 := (w6 (i : Int) (by omega) (by omega)).1
        refine z_aload_n mx mb dX0_trainOnCell_10 rfl 0 rfl ?_
        refine z_get (C := RX0) (T := TX0) (N := 9) mx mb mts (in_X0_trainOnCell_X0) mo hK (zgp hP) 0 wR_0 rfl 1 (by decide) (mts _ (List.mem_of_getElem? (i := 2) rfl)) (fun _ h9 => h9) rfl dX0_trainOnCell_11 ?_
        refine z_iload_n mx mb dX0_trainOnCell_14 rfl 2 rfl ?_
        refine z_top (show x2 = (i : Int) from by exact e3) ?_
        refine z_aald (i := i) mx mb hK (zgp hP) 6 1 wR_6 rfl (by decide) (by omega) dX0_trainOnCell_15 ?_
        refine z_get (C := RX3) (T := TX3) (N := 8) mx mb mts (in_X0_trainOnCell_X3) mo hK (zgp hP) (8 + i) (wR_t (by omega)) rfl 0 (by decide) (mts _ (List.mem_of_getElem? (i := 3) rfl)) (fun _ h9 => h9) rfl dX0_trainOnCell_16 ?_
        refine z_iload_n mx mb dX0_trainOnCell_19 rfl 1 rfl ?_
        refine z_icmp_ne (tgt := 25) mx mb (by omega) (by omega) dX0_trainOnCell_20 (by decide) (fun c20 => ?_) (fun c20 => ?_)
        · skip
          refine z_iinc mx mb dX0_trainOnCell_25 2 rfl (by decide) [(2, .int (iZ (x2 + 1))), (0, .ref (a 0)), (1, .int (iZ c))] rfl ?_
          refine z_goto (tgt := 2) mx mb dX0_trainOnCell_28 (by decide) ?_
          refine z_lv [1, 2, 0] rfl ?_
          exact ih (i + 1) _ (by omega) (by omega) (by omega) (by intro j hj; rcases Nat.lt_or_ge j i with q | q; exact hn j q; rw [show j = i by omega, ← e0]; exact c20)
        · skip
          refine z_iload_n mx mb dX0_trainOnCell_23 rfl 2 rfl ?_
          rw [hQ]
          exact z_retP mx mb mr mlk (by rw [e3]; exact (tro_one hW hA (by omega) (by rw [← e0]; exact c20)).symm) dX0_trainOnCell_24
  refine z_lv [1, 2, 0] rfl ?_
  exact lp2 _ 0 0 (Nat.lt_succ_self _) (by omega) (by rfl) (by intro j hj; omega)

theorem in_X0_trainInBlock_X0 : ∀ w ∈ wsX00, w ∈ wsX0_trainInBlock := by decide +kernel
theorem in_X0_trainInBlock_X1 : ∀ w ∈ wsX10, w ∈ wsX0_trainInBlock := by decide +kernel
theorem in_X0_trainInBlock_X3 : ∀ w ∈ wsX30, w ∈ wsX0_trainInBlock := by decide +kernel
set_option maxRecDepth 100000 in
set_option maxHeartbeats 4000000 in
theorem c_X0_trainInBlock (l : Launch) (D : va_G) (y : Nat → ClassId) (a : Nat → Nat) (R : Nat → Int → Int) (f : Int → Int) (b : Int) (hb : 0 ≤ b ∧ b < f 1) (hR : Rel f R) (hW : Wf f) : Met l yX0_trainInBlock wsX0_trainInBlock ({ frames := 0, cells := 0, slots := 0, locals := 0 } : Room) (zPp D vwCl (zT y) (wR y a R) [.ref (a 0), .int (iZ b)]) (vp_Si (fun r => r = iZ (trainIn f b))) 0 0 (fun _ => False) := by
  refine z_headP (cc := cX0_trainInBlock) (maxL := 3) (ret := (some .int)) [(0, .ref (a 0)), (1, .int (iZ b))] rfl (Nat.le_of_ble_eq_true rfl) (by decide +kernel) rfl ?_
  intro pp ee ss mm below meth cd mx mb mr mml mo mts mlk hK hP
  generalize ([.ref (a 0), .int (iZ b)] : List Value).toArray = args at mts ⊢
  obtain ⟨Q, hQ⟩ : ∃ Q, Q = MQ below (vp_Si (fun r => r = iZ (trainIn f b))) args ss 0 0 (fun _ => False) := ⟨_, rfl⟩
  rw [← hQ]
  obtain ⟨⟨r0, r1, r2, r3, r4⟩, rc, rb, ⟨s0, s1, s2, s3⟩, rt, rl⟩ := id hR
  obtain ⟨w0, w1, w2, w3, w4, w5, w6⟩ := id hW
  refine z_iconst mx mb dX0_trainInBlock_0 ?_
  refine z_istore_n mx mb dX0_trainInBlock_1 rfl (by decide) [(2, .int (iZ 0)), (0, .ref (a 0)), (1, .int (iZ b))] rfl ?_
  have lp2 : ∀ (nn : Nat) (i : Nat) (x2 : Int), (f 2).toNat - i < nn → ((i : Int) ≤ f 2) → (x2 = (i : Int)) → (tri f b i = -1) → Gz pp l ee ({ frames := 0, cells := 0, slots := 0, locals := 0 } : Room) ss mm args below meth cd 3 0 0 Q (Zp ss) 2 [(0, .ref (a 0)), (1, .int (iZ b)), (2, .int (iZ x2))] [] := by
    intro nn
    induction nn with
    | zero => exact fun i x2 hm => absurd hm (Nat.not_lt_zero _)
    | succ nn ih =>
      intro i x2 hm hi e3 hn
      refine z_iload_n mx mb dX0_trainInBlock_2 rfl 2 rfl ?_
      refine z_aload_n mx mb dX0_trainInBlock_3 rfl 0 rfl ?_
      refine z_get (C := RX0) (T := TX0) (N := 9) mx mb mts (in_X0_trainInBlock_X0) mo hK (zgp hP) 0 wR_0 rfl 6 (by decide) (mts _ (List.mem_of_getElem? (i := 1) rfl)) (fun _ h9 => h9) rfl dX0_trainInBlock_4 ?_
      refine z_icmp_ge (tgt := 39) mx mb (by omega) (by omega) dX0_trainInBlock_7 (by decide) (fun c7 => ?_) (fun c7 => ?_)
      · skip
        refine z_iconst mx mb dX0_trainInBlock_39 ?_
        rw [hQ]
        exact z_retP mx mb mr mlk (by unfold trainIn; rw [show (f 2).toNat = i by omega, hn]) dX0_trainInBlock_40
      · skip
        have e0 := rt i (by omega) 0 (by omega) (by omega)
        have k1 := (w6 (i : Int) (by omega) (by omega)).1
        have e1 := (rc (R (8 + i) 0) (by omega) (by omega)).2.2
        have k2 := blockAt_rng hW k1
        have e2 : R 4 (R (8 + i) 0) = blockAt f (f (79 + 8 * (i : Int) + 0)) := by rw [e1, e0]
        refine z_aload_n mx mb dX0_trainInBlock_10 rfl 0 rfl ?_
        refine z_get (C := RX0) (T := TX0) (N := 9) mx mb mts (in_X0_trainInBlock_X0) mo hK (zgp hP) 0 wR_0 rfl 0 (by decide) (mts _ (List.mem_of_getElem? (i := 2) rfl)) (fun _ h9 => h9) rfl dX0_trainInBlock_11 ?_
        refine z_get (C := RX1) (T := TX1) (N := 6) mx mb mts (in_X0_trainInBlock_X1) mo hK (zgp hP) 1 wR_1 rfl 2 (by decide) (mts _ (List.mem_of_getElem? (i := 3) rfl)) (fun _ h9 => h9) rfl dX0_trainInBlock_14 ?_
        refine z_aload_n mx mb dX0_trainInBlock_17 rfl 0 rfl ?_
        refine z_get (C := RX0) (T := TX0) (N := 9) mx mb mts (in_X0_trainInBlock_X0) mo hK (zgp hP) 0 wR_0 rfl 1 (by decide) (mts _ (List.mem_of_getElem? (i := 4) rfl)) (fun _ h9 => h9) rfl dX0_trainInBlock_18 ?_
        refine z_iload_n mx mb dX0_trainInBlock_21 rfl 2 rfl ?_
        refine z_top (show x2 = (i : Int) from by exact e3) ?_
        refine z_aald (i := i) mx mb hK (zgp hP) 6 1 wR_6 rfl (by decide) (by omega) dX0_trainInBlock_22 ?_
        refine z_get (C := RX3) (T := TX3) (N := 8) mx mb mts (in_X0_trainInBlock_X3) mo hK (zgp hP) (8 + i) (wR_t (by omega)) rfl 0 (by decide) (mts _ (List.mem_of_getElem? (i := 5) rfl)) (fun _ h9 => h9) rfl dX0_trainInBlock_23 ?_
        refine z_iald mx mb hK (zgp hP) 4 0 wR_4 rfl (by decide) (by omega) dX0_trainInBlock_26 ?_
        refine z_iload_n mx mb dX0_trainInBlock_27 rfl 1 rfl ?_
        refine z_icmp_ne (tgt := 33) mx mb (by omega) (by omega) dX0_trainInBlock_28 (by decide) (fun c28 => ?_) (fun c28 => ?_)
        · skip
          refine z_iinc mx mb dX0_trainInBlock_33 2 rfl (by decide) [(2, .int (iZ (x2 + 1))), (0, .ref (a 0)), (1, .int (iZ b))] rfl ?_
          refine z_goto (tgt := 2) mx mb dX0_trainInBlock_36 (by decide) ?_
          refine z_lv [1, 2, 0] rfl ?_
          exact ih (i + 1) _ (by omega) (by omega) (by omega) (by rw [tri, if_neg (fun q => c28 (by rw [e1, e0]; exact q.2)), hn])
        · skip
          refine z_iload_n mx mb dX0_trainInBlock_31 rfl 2 rfl ?_
          rw [hQ]
          exact z_retP mx mb mr mlk (by rw [e3]; unfold trainIn; rw [tri_keep (n := i + 1) (by rw [tri, if_pos ⟨hn, by rw [← e2]; exact c28⟩]; omega) (by omega), tri, if_pos ⟨hn, by rw [← e2]; exact c28⟩]) dX0_trainInBlock_32
  refine z_lv [1, 2, 0] rfl ?_
  exact lp2 _ 0 0 (Nat.lt_succ_self _) (by omega) (by rfl) (by rfl)
