set_option maxRecDepth 100000 in
set_option maxHeartbeats 4000000 in
theorem c_X5_in (l : Launch) (D : va_G) (y : Nat → ClassId) (v lo hi : Int) (hv : -2147483648 ≤ v ∧ v ≤ 2147483647) (hlo : -2147483648 ≤ lo ∧ lo ≤ 2147483647) (hhi : -2147483648 ≤ hi ∧ hi ≤ 2147483647) : Met l yX5_in wsX5_in ({ frames := 0, cells := 0, slots := 0, locals := 0 } : Room) (zPp D vwCl (zT y) ([]) [.int (iZ v), .int (iZ lo), .int (iZ hi)]) (vp_Si (fun r => r = iZ (b2z (lo ≤ v ∧ v ≤ hi)))) 0 0 (fun _ => False) := by
  refine z_headP (cc := cX5_in) (maxL := 3) (ret := (some .boolean)) [(0, .int (iZ v)), (1, .int (iZ lo)), (2, .int (iZ hi))] rfl (Nat.le_of_ble_eq_true rfl) (by decide +kernel) rfl ?_
  intro pp ee ss mm below meth cd mx mb mr mml mo mts mlk hK hP
  generalize ([.int (iZ v), .int (iZ lo), .int (iZ hi)] : List Value).toArray = args at mts ⊢
  obtain ⟨Q, hQ⟩ : ∃ Q, Q = MQ below (vp_Si (fun r => r = iZ (b2z (lo ≤ v ∧ v ≤ hi)))) args ss 0 0 (fun _ => False) := ⟨_, rfl⟩
  rw [← hQ]
  refine z_iload_n mx mb dX5_in_0 rfl 0 rfl ?_
  refine z_iload_n mx mb dX5_in_1 rfl 1 rfl ?_
  refine z_icmp_lt (tgt := 14) mx mb (by omega) (by omega) dX5_in_2 (by decide) (fun c2 => ?_) (fun c2 => ?_)
  · skip
    refine z_iconst mx mb dX5_in_14 ?_
    rw [hQ]
    exact z_retB mx mb mr mlk (by rw [b2z]; split <;> omega) dX5_in_15
  · skip
    refine z_iload_n mx mb dX5_in_5 rfl 0 rfl ?_
    refine z_iload_n mx mb dX5_in_6 rfl 2 rfl ?_
    refine z_icmp_gt (tgt := 14) mx mb (by omega) (by omega) dX5_in_7 (by decide) (fun c7 => ?_) (fun c7 => ?_)
    · skip
      refine z_iconst mx mb dX5_in_14 ?_
      rw [hQ]
      exact z_retB mx mb mr mlk (by rw [b2z]; split <;> omega) dX5_in_15
    · skip
      refine z_iconst mx mb dX5_in_10 ?_
      refine z_goto (tgt := 15) mx mb dX5_in_11 (by decide) ?_
      rw [hQ]
      exact z_retB mx mb mr mlk (by rw [b2z]; split <;> omega) dX5_in_15

theorem in_X5_of_X5 : ∀ w ∈ wsX50, w ∈ wsX5_of := by decide +kernel
set_option maxRecDepth 100000 in
set_option maxHeartbeats 4000000 in
theorem c_X5_of (l : Launch) (D : va_G) (y : Nat → ClassId) (a : Nat → Nat) (f sv ai tx : Int → Int) (sm ln th hh : Int) (t w : Int) (hi : 0 ≤ 79 + 8 * t + w ∧ 79 + 8 * t + w < 171) : Met l yX5_of wsX5_of ({ frames := 0, cells := 0, slots := 0, locals := 0 } : Room) (zPp D vwCl (zT y) (wM y a f sv ai tx sm ln th hh) [.ref (a 0), .int (iZ t), .int (iZ w)]) (vp_Si (fun r => r = iZ (f (79 + 8 * t + w)))) 0 0 (fun _ => False) := by
  refine z_headP (cc := cX5_of) (maxL := 3) (ret := (some .int)) [(0, .ref (a 0)), (1, .int (iZ t)), (2, .int (iZ w))] rfl (Nat.le_of_ble_eq_true rfl) (by decide +kernel) rfl ?_
  intro pp ee ss mm below meth cd mx mb mr mml mo mts mlk hK hP
  generalize ([.ref (a 0), .int (iZ t), .int (iZ w)] : List Value).toArray = args at mts ⊢
  obtain ⟨Q, hQ⟩ : ∃ Q, Q = MQ below (vp_Si (fun r => r = iZ (f (79 + 8 * t + w)))) args ss 0 0 (fun _ => False) := ⟨_, rfl⟩
  rw [← hQ]
  refine z_aload_n mx mb dX5_of_0 rfl 0 rfl ?_
  refine z_get (C := RX5) (T := TX5) (N := 8) mx mb mts (in_X5_of_X5) mo hK (zgp hP) 0 wM_0 rfl 0 (by decide) (mts _ (List.mem_of_getElem? (i := 1) rfl)) (fun _ h9 => h9) rfl dX5_of_1 ?_
  refine z_bipush mx mb dX5_of_4 (by decide +kernel) ?_
  refine z_bipush mx mb dX5_of_6 (by decide +kernel) ?_
  refine z_iload_n mx mb dX5_of_8 rfl 1 rfl ?_
  refine z_imul mx mb dX5_of_9 ?_
  refine z_iadd mx mb dX5_of_10 ?_
  refine z_iload_n mx mb dX5_of_11 rfl 2 rfl ?_
  refine z_iadd mx mb dX5_of_12 ?_
  refine z_iald mx mb hK (zgp hP) 1 0 wM_1 rfl (by decide) (by omega) dX5_of_13 ?_
  rw [hQ]
  exact z_retP mx mb mr mlk (by rfl) dX5_of_14

theorem in_X5_after_X5 : ∀ w ∈ wsX50, w ∈ wsX5_after := by decide +kernel
set_option maxRecDepth 100000 in
set_option maxHeartbeats 4000000 in
theorem c_X5_after (l : Launch) (D : va_G) (y : Nat → ClassId) (a : Nat → Nat) (f sv ai tx : Int → Int) (sm ln th hh : Int) (c : Int) (hc : 0 ≤ c ∧ c < 100) (h0 : 0 ≤ f 0 ∧ f 0 ≤ 30) : Met l yX5_after wsX5_after ({ frames := 0, cells := 0, slots := 0, locals := 0 } : Room) (zPp D vwCl (zT y) (wM y a f sv ai tx sm ln th hh) [.ref (a 0), .int (iZ c)]) (vp_Si (fun r => r = iZ (after f c))) 0 0 (fun _ => False) := by
  refine z_headP (cc := cX5_after) (maxL := 2) (ret := (some .int)) [(0, .ref (a 0)), (1, .int (iZ c))] rfl (Nat.le_of_ble_eq_true rfl) (by decide +kernel) rfl ?_
  intro pp ee ss mm below meth cd mx mb mr mml mo mts mlk hK hP
  generalize ([.ref (a 0), .int (iZ c)] : List Value).toArray = args at mts ⊢
  obtain ⟨Q, hQ⟩ : ∃ Q, Q = MQ below (vp_Si (fun r => r = iZ (after f c))) args ss 0 0 (fun _ => False) := ⟨_, rfl⟩
  rw [← hQ]
  refine z_iload_n mx mb dX5_after_0 rfl 1 rfl ?_
  refine z_iconst mx mb dX5_after_1 ?_
  refine z_iadd mx mb dX5_after_2 ?_
  refine z_aload_n mx mb dX5_after_3 rfl 0 rfl ?_
  refine z_get (C := RX5) (T := TX5) (N := 8) mx mb mts (in_X5_after_X5) mo hK (zgp hP) 0 wM_0 rfl 0 (by decide) (mts _ (List.mem_of_getElem? (i := 1) rfl)) (fun _ h9 => h9) rfl dX5_after_4 ?_
  refine z_iconst mx mb dX5_after_7 ?_
  refine z_iald mx mb hK (zgp hP) 1 0 wM_1 rfl (by decide) (by omega) dX5_after_8 ?_
  refine z_icmp_ne (tgt := 16) mx mb (by omega) (by omega) dX5_after_9 (by decide) (fun c9 => ?_) (fun c9 => ?_)
  · skip
    refine z_iload_n mx mb dX5_after_16 rfl 1 rfl ?_
    refine z_iconst mx mb dX5_after_17 ?_
    refine z_iadd mx mb dX5_after_18 ?_
    rw [hQ]
    exact z_retP mx mb mr mlk (by unfold after; first | rw [if_pos (by omega)] | rw [if_neg (by omega)]) dX5_after_19
  · skip
    refine z_iconst mx mb dX5_after_12 ?_
    refine z_goto (tgt := 19) mx mb dX5_after_13 (by decide) ?_
    rw [hQ]
    exact z_retP mx mb mr mlk (by unfold after; first | rw [if_pos (by omega)] | rw [if_neg (by omega)]) dX5_after_19

theorem in_X5_nextBlock_X5 : ∀ w ∈ wsX50, w ∈ wsX5_nextBlock := by decide +kernel
set_option maxRecDepth 100000 in
set_option maxHeartbeats 4000000 in
theorem c_X5_nextBlock (l : Launch) (D : va_G) (y : Nat → ClassId) (a : Nat → Nat) (f sv ai tx : Int → Int) (sm ln th hh : Int) (b : Int) (hc : 0 ≤ b ∧ b < 100) (h0 : 0 ≤ f 1 ∧ f 1 ≤ 30) : Met l yX5_nextBlock wsX5_nextBlock ({ frames := 0, cells := 0, slots := 0, locals := 0 } : Room) (zPp D vwCl (zT y) (wM y a f sv ai tx sm ln th hh) [.ref (a 0), .int (iZ b)]) (vp_Si (fun r => r = iZ (nextB f b))) 0 0 (fun _ => False) := by
  refine z_headP (cc := cX5_nextBlock) (maxL := 2) (ret := (some .int)) [(0, .ref (a 0)), (1, .int (iZ b))] rfl (Nat.le_of_ble_eq_true rfl) (by decide +kernel) rfl ?_
  intro pp ee ss mm below meth cd mx mb mr mml mo mts mlk hK hP
  generalize ([.ref (a 0), .int (iZ b)] : List Value).toArray = args at mts ⊢
  obtain ⟨Q, hQ⟩ : ∃ Q, Q = MQ below (vp_Si (fun r => r = iZ (nextB f b))) args ss 0 0 (fun _ => False) := ⟨_, rfl⟩
  rw [← hQ]
  refine z_iload_n mx mb dX5_nextBlock_0 rfl 1 rfl ?_
  refine z_iconst mx mb dX5_nextBlock_1 ?_
  refine z_iadd mx mb dX5_nextBlock_2 ?_
  refine z_aload_n mx mb dX5_nextBlock_3 rfl 0 rfl ?_
  refine z_get (C := RX5) (T := TX5) (N := 8) mx mb mts (in_X5_nextBlock_X5) mo hK (zgp hP) 0 wM_0 rfl 0 (by decide) (mts _ (List.mem_of_getElem? (i := 1) rfl)) (fun _ h9 => h9) rfl dX5_nextBlock_4 ?_
  refine z_iconst mx mb dX5_nextBlock_7 ?_
  refine z_iald mx mb hK (zgp hP) 1 0 wM_1 rfl (by decide) (by omega) dX5_nextBlock_8 ?_
  refine z_icmp_ne (tgt := 16) mx mb (by omega) (by omega) dX5_nextBlock_9 (by decide) (fun c9 => ?_) (fun c9 => ?_)
  · skip
    refine z_iload_n mx mb dX5_nextBlock_16 rfl 1 rfl ?_
    refine z_iconst mx mb dX5_nextBlock_17 ?_
    refine z_iadd mx mb dX5_nextBlock_18 ?_
    rw [hQ]
    exact z_retP mx mb mr mlk (by unfold nextB; first | rw [if_pos (by omega)] | rw [if_neg (by omega)]) dX5_nextBlock_19
  · skip
    refine z_iconst mx mb dX5_nextBlock_12 ?_
    refine z_goto (tgt := 19) mx mb dX5_nextBlock_13 (by decide) ?_
    rw [hQ]
    exact z_retP mx mb mr mlk (by unfold nextB; first | rw [if_pos (by omega)] | rw [if_neg (by omega)]) dX5_nextBlock_19

theorem in_X5_blockAhead_X5 : ∀ w ∈ wsX50, w ∈ wsX5_blockAhead := by decide +kernel
set_option maxRecDepth 100000 in
set_option maxHeartbeats 4000000 in
theorem c_X5_blockAhead (l : Launch) (D : va_G) (y : Nat → ClassId) (a : Nat → Nat) (f sv ai tx : Int → Int) (sm ln th hh : Int) (b : Int) (hc : 0 ≤ b ∧ b < 100) : Met l yX5_blockAhead wsX5_blockAhead ({ frames := 0, cells := 0, slots := 0, locals := 0 } : Room) (zPp D vwCl (zT y) (wM y a f sv ai tx sm ln th hh) [.ref (a 0), .int (iZ b)]) (vp_Si (fun r => r = iZ (ahead f b))) 0 0 (fun _ => False) := by
  refine z_headP (cc := cX5_blockAhead) (maxL := 2) (ret := (some .int)) [(0, .ref (a 0)), (1, .int (iZ b))] rfl (Nat.le_of_ble_eq_true rfl) (by decide +kernel) rfl ?_
  intro pp ee ss mm below meth cd mx mb mr mml mo mts mlk hK hP
  generalize ([.ref (a 0), .int (iZ b)] : List Value).toArray = args at mts ⊢
  obtain ⟨Q, hQ⟩ : ∃ Q, Q = MQ below (vp_Si (fun r => r = iZ (ahead f b))) args ss 0 0 (fun _ => False) := ⟨_, rfl⟩
  rw [← hQ]
  refine z_iload_n mx mb dX5_blockAhead_0 rfl 1 rfl ?_
  refine z_if_ne (tgt := 15) mx mb (by omega) dX5_blockAhead_1 (by decide) (fun c1 => ?_) (fun c1 => ?_)
  · skip
    refine z_iload_n mx mb dX5_blockAhead_15 rfl 1 rfl ?_
    refine z_iconst mx mb dX5_blockAhead_16 ?_
    refine z_isub mx mb dX5_blockAhead_17 ?_
    rw [hQ]
    exact z_retP mx mb mr mlk (by unfold ahead; first | rw [if_pos (by omega)] | rw [if_neg (by omega)]) dX5_blockAhead_18
  · skip
    refine z_aload_n mx mb dX5_blockAhead_4 rfl 0 rfl ?_
    refine z_get (C := RX5) (T := TX5) (N := 8) mx mb mts (in_X5_blockAhead_X5) mo hK (zgp hP) 0 wM_0 rfl 0 (by decide) (mts _ (List.mem_of_getElem? (i := 1) rfl)) (fun _ h9 => h9) rfl dX5_blockAhead_5 ?_
    refine z_iconst mx mb dX5_blockAhead_8 ?_
    refine z_iald mx mb hK (zgp hP) 1 0 wM_1 rfl (by decide) (by omega) dX5_blockAhead_9 ?_
    refine z_iconst mx mb dX5_blockAhead_10 ?_
    refine z_isub mx mb dX5_blockAhead_11 ?_
    refine z_goto (tgt := 18) mx mb dX5_blockAhead_12 (by decide) ?_
    rw [hQ]
    exact z_retP mx mb mr mlk (by unfold ahead; first | rw [if_pos (by omega)] | rw [if_neg (by omega)]) dX5_blockAhead_18

theorem in_X5_isCell_X5 : ∀ w ∈ wsX50, w ∈ wsX5_isCell := by decide +kernel
set_option maxRecDepth 100000 in
set_option maxHeartbeats 4000000 in
theorem c_X5_isCell (l : Launch) (D : va_G) (y : Nat → ClassId) (a : Nat → Nat) (f sv ai tx : Int → Int) (sm ln th hh : Int) (c : Int) (hc : -2147483648 ≤ c ∧ c ≤ 2147483647) (h0 : 0 ≤ f 0 ∧ f 0 ≤ 30) : Met l yX5_isCell wsX5_isCell ({ frames := 1, cells := 0, slots := 0, locals := 22 } : Room) (zPp D vwCl (zT y) (wM y a f sv ai tx sm ln th hh) [.ref (a 0), .int (iZ c)]) (vp_Si (fun r => r = iZ (b2z (0 ≤ c ∧ c ≤ f 0 - 1)))) 0 0 (fun _ => False) := by
  refine z_headP (cc := cX5_isCell) (maxL := 2) (ret := (some .boolean)) [(0, .ref (a 0)), (1, .int (iZ c))] rfl (Nat.le_of_ble_eq_true rfl) (by decide +kernel) rfl ?_
  intro pp ee ss mm below meth cd mx mb mr mml mo mts mlk hK hP
  generalize ([.ref (a 0), .int (iZ c)] : List Value).toArray = args at mts ⊢
  obtain ⟨Q, hQ⟩ : ∃ Q, Q = MQ below (vp_Si (fun r => r = iZ (b2z (0 ≤ c ∧ c ≤ f 0 - 1)))) args ss 0 0 (fun _ => False) := ⟨_, rfl⟩
  rw [← hQ]
  refine z_iload_n mx mb dX5_isCell_0 rfl 1 rfl ?_
  refine z_iconst mx mb dX5_isCell_1 ?_
  refine z_aload_n mx mb dX5_isCell_2 rfl 0 rfl ?_
  refine z_get (C := RX5) (T := TX5) (N := 8) mx mb mts (in_X5_isCell_X5) mo hK (zgp hP) 0 wM_0 rfl 0 (by decide) (mts _ (List.mem_of_getElem? (i := 1) rfl)) (fun _ h9 => h9) rfl dX5_isCell_3 ?_
  refine z_iconst mx mb dX5_isCell_6 ?_
  refine z_iald mx mb hK (zgp hP) 1 0 wM_1 rfl (by decide) (by omega) dX5_isCell_7 ?_
  refine z_iconst mx mb dX5_isCell_8 ?_
  refine z_isub mx mb dX5_isCell_9 ?_
  refine z_callPS (As := [.int (iZ c), .int (iZ 0), .int (iZ ((f 0) - 1))]) (rest := []) ⟨mx, mb, mml, mo, mts⟩ hK (zgp hP) (c_X5_in l D y c 0 ((f 0) - 1) (by omega) (by omega) (by omega)) (cwS 3 mts gX5_isCell_X5_in rfl rfl rfl (by decide +kernel) ⟨Nat.le_of_ble_eq_true rfl, Nat.le_of_ble_eq_true rfl⟩) (fun _ h => nomatch h) rfl rfl (Nat.le_of_ble_eq_true rfl) ⟨Nat.zero_le _, Nat.zero_le _⟩ dX5_isCell_10 ?_
  rw [hQ]
  exact z_retB mx mb mr mlk (by rfl) dX5_isCell_13

theorem in_X5_isBlock_X5 : ∀ w ∈ wsX50, w ∈ wsX5_isBlock := by decide +kernel
set_option maxRecDepth 100000 in
set_option maxHeartbeats 4000000 in
theorem c_X5_isBlock (l : Launch) (D : va_G) (y : Nat → ClassId) (a : Nat → Nat) (f sv ai tx : Int → Int) (sm ln th hh : Int) (c : Int) (hc : -2147483648 ≤ c ∧ c ≤ 2147483647) (h0 : 0 ≤ f 1 ∧ f 1 ≤ 30) : Met l yX5_isBlock wsX5_isBlock ({ frames := 1, cells := 0, slots := 0, locals := 22 } : Room) (zPp D vwCl (zT y) (wM y a f sv ai tx sm ln th hh) [.ref (a 0), .int (iZ c)]) (vp_Si (fun r => r = iZ (b2z (0 ≤ c ∧ c ≤ f 1 - 1)))) 0 0 (fun _ => False) := by
  refine z_headP (cc := cX5_isBlock) (maxL := 2) (ret := (some .boolean)) [(0, .ref (a 0)), (1, .int (iZ c))] rfl (Nat.le_of_ble_eq_true rfl) (by decide +kernel) rfl ?_
  intro pp ee ss mm below meth cd mx mb mr mml mo mts mlk hK hP
  generalize ([.ref (a 0), .int (iZ c)] : List Value).toArray = args at mts ⊢
  obtain ⟨Q, hQ⟩ : ∃ Q, Q = MQ below (vp_Si (fun r => r = iZ (b2z (0 ≤ c ∧ c ≤ f 1 - 1)))) args ss 0 0 (fun _ => False) := ⟨_, rfl⟩
  rw [← hQ]
  refine z_iload_n mx mb dX5_isBlock_0 rfl 1 rfl ?_
  refine z_iconst mx mb dX5_isBlock_1 ?_
  refine z_aload_n mx mb dX5_isBlock_2 rfl 0 rfl ?_
  refine z_get (C := RX5) (T := TX5) (N := 8) mx mb mts (in_X5_isBlock_X5) mo hK (zgp hP) 0 wM_0 rfl 0 (by decide) (mts _ (List.mem_of_getElem? (i := 1) rfl)) (fun _ h9 => h9) rfl dX5_isBlock_3 ?_
  refine z_iconst mx mb dX5_isBlock_6 ?_
  refine z_iald mx mb hK (zgp hP) 1 0 wM_1 rfl (by decide) (by omega) dX5_isBlock_7 ?_
  refine z_iconst mx mb dX5_isBlock_8 ?_
  refine z_isub mx mb dX5_isBlock_9 ?_
  refine z_callPS (As := [.int (iZ c), .int (iZ 0), .int (iZ ((f 1) - 1))]) (rest := []) ⟨mx, mb, mml, mo, mts⟩ hK (zgp hP) (c_X5_in l D y c 0 ((f 1) - 1) (by omega) (by omega) (by omega)) (cwS 3 mts gX5_isBlock_X5_in rfl rfl rfl (by decide +kernel) ⟨Nat.le_of_ble_eq_true rfl, Nat.le_of_ble_eq_true rfl⟩) (fun _ h => nomatch h) rfl rfl (Nat.le_of_ble_eq_true rfl) ⟨Nat.zero_le _, Nat.zero_le _⟩ dX5_isBlock_10 ?_
  rw [hQ]
  exact z_retB mx mb mr mlk (by rfl) dX5_isBlock_13

theorem in_X5_isTrain_X5 : ∀ w ∈ wsX50, w ∈ wsX5_isTrain := by decide +kernel
set_option maxRecDepth 100000 in
set_option maxHeartbeats 4000000 in
theorem c_X5_isTrain (l : Launch) (D : va_G) (y : Nat → ClassId) (a : Nat → Nat) (f sv ai tx : Int → Int) (sm ln th hh : Int) (c : Int) (hc : -2147483648 ≤ c ∧ c ≤ 2147483647) (h0 : 0 ≤ f 2 ∧ f 2 ≤ 30) : Met l yX5_isTrain wsX5_isTrain ({ frames := 1, cells := 0, slots := 0, locals := 22 } : Room) (zPp D vwCl (zT y) (wM y a f sv ai tx sm ln th hh) [.ref (a 0), .int (iZ c)]) (vp_Si (fun r => r = iZ (b2z (0 ≤ c ∧ c ≤ f 2 - 1)))) 0 0 (fun _ => False) := by
  refine z_headP (cc := cX5_isTrain) (maxL := 2) (ret := (some .boolean)) [(0, .ref (a 0)), (1, .int (iZ c))] rfl (Nat.le_of_ble_eq_true rfl) (by decide +kernel) rfl ?_
  intro pp ee ss mm below meth cd mx mb mr mml mo mts mlk hK hP
  generalize ([.ref (a 0), .int (iZ c)] : List Value).toArray = args at mts ⊢
  obtain ⟨Q, hQ⟩ : ∃ Q, Q = MQ below (vp_Si (fun r => r = iZ (b2z (0 ≤ c ∧ c ≤ f 2 - 1)))) args ss 0 0 (fun _ => False) := ⟨_, rfl⟩
  rw [← hQ]
  refine z_iload_n mx mb dX5_isTrain_0 rfl 1 rfl ?_
  refine z_iconst mx mb dX5_isTrain_1 ?_
  refine z_aload_n mx mb dX5_isTrain_2 rfl 0 rfl ?_
  refine z_get (C := RX5) (T := TX5) (N := 8) mx mb mts (in_X5_isTrain_X5) mo hK (zgp hP) 0 wM_0 rfl 0 (by decide) (mts _ (List.mem_of_getElem? (i := 1) rfl)) (fun _ h9 => h9) rfl dX5_isTrain_3 ?_
  refine z_iconst mx mb dX5_isTrain_6 ?_
  refine z_iald mx mb hK (zgp hP) 1 0 wM_1 rfl (by decide) (by omega) dX5_isTrain_7 ?_
  refine z_iconst mx mb dX5_isTrain_8 ?_
  refine z_isub mx mb dX5_isTrain_9 ?_
  refine z_callPS (As := [.int (iZ c), .int (iZ 0), .int (iZ ((f 2) - 1))]) (rest := []) ⟨mx, mb, mml, mo, mts⟩ hK (zgp hP) (c_X5_in l D y c 0 ((f 2) - 1) (by omega) (by omega) (by omega)) (cwS 3 mts gX5_isTrain_X5_in rfl rfl rfl (by decide +kernel) ⟨Nat.le_of_ble_eq_true rfl, Nat.le_of_ble_eq_true rfl⟩) (fun _ h => nomatch h) rfl rfl (Nat.le_of_ble_eq_true rfl) ⟨Nat.zero_le _, Nat.zero_le _⟩ dX5_isTrain_10 ?_
  rw [hQ]
  exact z_retB mx mb mr mlk (by rfl) dX5_isTrain_13

theorem in_X5_blockAt_X5 : ∀ w ∈ wsX50, w ∈ wsX5_blockAt := by decide +kernel
set_option maxRecDepth 100000 in
set_option maxHeartbeats 4000000 in
theorem c_X5_blockAt (l : Launch) (D : va_G) (y : Nat → ClassId) (a : Nat → Nat) (f sv ai tx : Int → Int) (sm ln th hh : Int) (c : Int) (hc : 0 ≤ c ∧ c ≤ 30) (hW : Wf f) : Met l yX5_blockAt wsX5_blockAt ({ frames := 0, cells := 0, slots := 0, locals := 0 } : Room) (zPp D vwCl (zT y) (wM y a f sv ai tx sm ln th hh) [.ref (a 0), .int (iZ c)]) (vp_Si (fun r => r = iZ (blockAt f c))) 0 0 (fun _ => False) := by
  refine z_headP (cc := cX5_blockAt) (maxL := 4) (ret := (some .int)) [(0, .ref (a 0)), (1, .int (iZ c))] rfl (Nat.le_of_ble_eq_true rfl) (by decide +kernel) rfl ?_
  intro pp ee ss mm below meth cd mx mb mr mml mo mts mlk hK hP
  generalize ([.ref (a 0), .int (iZ c)] : List Value).toArray = args at mts ⊢
  obtain ⟨Q, hQ⟩ : ∃ Q, Q = MQ below (vp_Si (fun r => r = iZ (blockAt f c))) args ss 0 0 (fun _ => False) := ⟨_, rfl⟩
  rw [← hQ]
  obtain ⟨w0, w1, w2, w3, w4, w5, w6⟩ := id hW
  refine z_iconst mx mb dX5_blockAt_0 ?_
  refine z_istore_n mx mb dX5_blockAt_1 rfl (by decide) [(2, .int (iZ 0)), (0, .ref (a 0)), (1, .int (iZ c))] rfl ?_
  refine z_iconst mx mb dX5_blockAt_2 ?_
  refine z_istore_n mx mb dX5_blockAt_3 rfl (by decide) [(3, .int (iZ 0)), (2, .int (iZ 0)), (0, .ref (a 0)), (1, .int (iZ c))] rfl ?_
  have lp4 : ∀ (nn : Nat) (i : Nat) (x2 x3 : Int), c.toNat - i < nn → ((i : Int) ≤ c) → (x2 = cnt f i) → (x3 = (i : Int)) → Gz pp l ee ({ frames := 0, cells := 0, slots := 0, locals := 0 } : Room) ss mm args below meth cd 4 0 0 Q (Zp ss) 4 [(0, .ref (a 0)), (1, .int (iZ c)), (2, .int (iZ x2)), (3, .int (iZ x3))] [] := by
    intro nn
    induction nn with
    | zero => exact fun i x2 x3 hm => absurd hm (Nat.not_lt_zero _)
    | succ nn ih =>
      intro i x2 x3 hm hi e2 e3
      have r2 := cnt_rng f i
      refine z_iload_n mx mb dX5_blockAt_4 rfl 3 rfl ?_
      refine z_iload_n mx mb dX5_blockAt_5 rfl 1 rfl ?_
      refine z_icmp_ge (tgt := 36) mx mb (by omega) (by omega) dX5_blockAt_6 (by decide) (fun c6 => ?_) (fun c6 => ?_)
      · skip
        have hi2 : i = c.toNat := by omega
        refine z_iload_n mx mb dX5_blockAt_36 rfl 2 rfl ?_
        refine z_aload_n mx mb dX5_blockAt_37 rfl 0 rfl ?_
        refine z_get (C := RX5) (T := TX5) (N := 8) mx mb mts (in_X5_blockAt_X5) mo hK (zgp hP) 0 wM_0 rfl 0 (by decide) (mts _ (List.mem_of_getElem? (i := 1) rfl)) (fun _ h9 => h9) rfl dX5_blockAt_38 ?_
        refine z_iconst mx mb dX5_blockAt_41 ?_
        refine z_iald mx mb hK (zgp hP) 1 0 wM_1 rfl (by decide) (by omega) dX5_blockAt_42 ?_
        refine z_icmp_ne (tgt := 50) mx mb (by omega) (by omega) dX5_blockAt_43 (by decide) (fun c43 => ?_) (fun c43 => ?_)
        · skip
          refine z_iload_n mx mb dX5_blockAt_50 rfl 2 rfl ?_
          rw [hQ]
          exact z_retP mx mb mr mlk (by unfold blockAt; rw [← hi2, ← e2]; first | (rw [if_pos c43]; done) | (rw [if_neg c43]; done)) dX5_blockAt_51
        · skip
          refine z_iconst mx mb dX5_blockAt_46 ?_
          refine z_goto (tgt := 51) mx mb dX5_blockAt_47 (by decide) ?_
          rw [hQ]
          exact z_retP mx mb mr mlk (by unfold blockAt; rw [← hi2, ← e2]; first | (rw [if_pos c43]; done) | (rw [if_neg c43]; done)) dX5_blockAt_51
      · skip
        have k1 := w4 x3 (by omega) (by omega)
        refine z_iload_n mx mb dX5_blockAt_9 rfl 2 rfl ?_
        refine z_aload_n mx mb dX5_blockAt_10 rfl 0 rfl ?_
        refine z_get (C := RX5) (T := TX5) (N := 8) mx mb mts (in_X5_blockAt_X5) mo hK (zgp hP) 0 wM_0 rfl 0 (by decide) (mts _ (List.mem_of_getElem? (i := 1) rfl)) (fun _ h9 => h9) rfl dX5_blockAt_11 ?_
        refine z_bipush mx mb dX5_blockAt_14 (by decide +kernel) ?_
        refine z_iload_n mx mb dX5_blockAt_16 rfl 3 rfl ?_
        refine z_iadd mx mb dX5_blockAt_17 ?_
        refine z_iald mx mb hK (zgp hP) 1 0 wM_1 rfl (by decide) (by omega) dX5_blockAt_18 ?_
        refine z_iconst mx mb dX5_blockAt_19 ?_
        refine z_icmp_ne (tgt := 27) mx mb (by omega) (by omega) dX5_blockAt_20 (by decide) (fun c20 => ?_) (fun c20 => ?_)
        · skip
          refine z_iconst mx mb dX5_blockAt_27 ?_
          refine z_iadd mx mb dX5_blockAt_28 ?_
          refine z_istore_n mx mb dX5_blockAt_29 rfl (by decide) [(2, .int (iZ (x2 + 0))), (0, .ref (a 0)), (1, .int (iZ c)), (3, .int (iZ x3))] rfl ?_
          refine z_iinc mx mb dX5_blockAt_30 3 rfl (by decide) [(3, .int (iZ (x3 + 1))), (2, .int (iZ (x2 + 0))), (0, .ref (a 0)), (1, .int (iZ c))] rfl ?_
          refine z_goto (tgt := 4) mx mb dX5_blockAt_33 (by decide) ?_
          refine z_lv [2, 3, 1, 0] rfl ?_
          exact ih (i + 1) _ _ (by omega) (by omega) (by first | (rw [cnt, ← e3, if_pos c20, e2]; done) | (rw [cnt, ← e3, if_neg c20, e2]; done)) (by omega)
        · skip
          refine z_iconst mx mb dX5_blockAt_23 ?_
          refine z_goto (tgt := 28) mx mb dX5_blockAt_24 (by decide) ?_
          refine z_iadd mx mb dX5_blockAt_28 ?_
          refine z_istore_n mx mb dX5_blockAt_29 rfl (by decide) [(2, .int (iZ (x2 + 1))), (0, .ref (a 0)), (1, .int (iZ c)), (3, .int (iZ x3))] rfl ?_
          refine z_iinc mx mb dX5_blockAt_30 3 rfl (by decide) [(3, .int (iZ (x3 + 1))), (2, .int (iZ (x2 + 1))), (0, .ref (a 0)), (1, .int (iZ c))] rfl ?_
          refine z_goto (tgt := 4) mx mb dX5_blockAt_33 (by decide) ?_
          refine z_lv [2, 3, 1, 0] rfl ?_
          exact ih (i + 1) _ _ (by omega) (by omega) (by first | (rw [cnt, ← e3, if_pos c20, e2]; done) | (rw [cnt, ← e3, if_neg c20, e2]; done)) (by omega)
  refine z_lv [2, 3, 1, 0] rfl ?_
  exact lp4 _ 0 0 0 (Nat.lt_succ_self _) (by omega) (by rfl) (by rfl)

theorem in_X5_brakeOf_X5 : ∀ w ∈ wsX50, w ∈ wsX5_brakeOf := by decide +kernel
set_option maxRecDepth 100000 in
set_option maxHeartbeats 4000000 in
theorem c_X5_brakeOf (l : Launch) (D : va_G) (y : Nat → ClassId) (a : Nat → Nat) (f sv ai tx : Int → Int) (sm ln th hh : Int) (b : Int) (hb : 0 ≤ b ∧ b < f 1) (hW : Wf f) : Met l yX5_brakeOf wsX5_brakeOf ({ frames := 0, cells := 0, slots := 0, locals := 0 } : Room) (zPp D vwCl (zT y) (wM y a f sv ai tx sm ln th hh) [.ref (a 0), .int (iZ b)]) (vp_Si (fun r => r = iZ (brakeOf f b))) 0 0 (fun _ => False) := by
  refine z_headP (cc := cX5_brakeOf) (maxL := 4) (ret := (some .int)) [(0, .ref (a 0)), (1, .int (iZ b))] rfl (Nat.le_of_ble_eq_true rfl) (by decide +kernel) rfl ?_
  intro pp ee ss mm below meth cd mx mb mr mml mo mts mlk hK hP
  generalize ([.ref (a 0), .int (iZ b)] : List Value).toArray = args at mts ⊢
  obtain ⟨Q, hQ⟩ : ∃ Q, Q = MQ below (vp_Si (fun r => r = iZ (brakeOf f b))) args ss 0 0 (fun _ => False) := ⟨_, rfl⟩
  rw [← hQ]
  obtain ⟨w0, w1, w2, w3, w4, w5, w6⟩ := id hW
  obtain ⟨b0, b1, b2, b3⟩ := brakeOf_spec hW hb
  refine z_iconst mx mb dX5_brakeOf_0 ?_
  refine z_istore_n mx mb dX5_brakeOf_1 rfl (by decide) [(2, .int (iZ 0)), (0, .ref (a 0)), (1, .int (iZ b))] rfl ?_
  refine z_iload_n mx mb dX5_brakeOf_2 rfl 2 rfl ?_
  refine z_istore_n mx mb dX5_brakeOf_3 rfl (by decide) [(3, .int (iZ b)), (2, .int (iZ 0)), (0, .ref (a 0)), (1, .int (iZ b))] rfl ?_
  have lp4 : ∀ (nn : Nat) (i : Nat) (x2 x3 : Int), (brakeOf f b).toNat - i < nn → ((i : Int) ≤ brakeOf f b) → (x2 = (i : Int)) → (x3 = b - cnt f i) → Gz pp l ee ({ frames := 0, cells := 0, slots := 0, locals := 0 } : Room) ss mm args below meth cd 4 0 0 Q (Zp ss) 4 [(0, .ref (a 0)), (1, .int (iZ b)), (2, .int (iZ x2)), (3, .int (iZ x3))] [] := by
    intro nn
    induction nn with
    | zero => exact fun i x2 x3 hm => absurd hm (Nat.not_lt_zero _)
    | succ nn ih =>
      intro i x2 x3 hm hi e2 e3
      have r2 := cnt_rng f i
      have k1 := w4 x2 (by omega) (by omega)
      have m1 := cnt_mono f (show i ≤ (brakeOf f b).toNat by omega)
      have m2 : f (41 + x2) = 2 → i < (brakeOf f b).toNat → cnt f i + 1 ≤ cnt f (brakeOf f b).toNat := fun q z => cnt_step (by rw [← e2]; exact q) z
      have m3 : i = (brakeOf f b).toNat → f (41 + x2) = 2 := fun q => by rw [show x2 = brakeOf f b by omega]; exact b2
      have m4 : i = (brakeOf f b).toNat → cnt f i = b := fun q => by rw [q]; exact b3
      refine z_aload_n mx mb dX5_brakeOf_4 rfl 0 rfl ?_
      refine z_get (C := RX5) (T := TX5) (N := 8) mx mb mts (in_X5_brakeOf_X5) mo hK (zgp hP) 0 wM_0 rfl 0 (by decide) (mts _ (List.mem_of_getElem? (i := 1) rfl)) (fun _ h9 => h9) rfl dX5_brakeOf_5 ?_
      refine z_bipush mx mb dX5_brakeOf_8 (by decide +kernel) ?_
      refine z_iload_n mx mb dX5_brakeOf_10 rfl 2 rfl ?_
      refine z_iadd mx mb dX5_brakeOf_11 ?_
      refine z_iald mx mb hK (zgp hP) 1 0 wM_1 rfl (by decide) (by omega) dX5_brakeOf_12 ?_
      refine z_iconst mx mb dX5_brakeOf_13 ?_
      refine z_icmp_ne (tgt := 21) mx mb (by omega) (by omega) dX5_brakeOf_14 (by decide) (fun c14 => ?_) (fun c14 => ?_)
      · skip
        refine z_iload_n mx mb dX5_brakeOf_21 rfl 3 rfl ?_
        refine z_aload_n mx mb dX5_brakeOf_22 rfl 0 rfl ?_
        refine z_get (C := RX5) (T := TX5) (N := 8) mx mb mts (in_X5_brakeOf_X5) mo hK (zgp hP) 0 wM_0 rfl 0 (by decide) (mts _ (List.mem_of_getElem? (i := 1) rfl)) (fun _ h9 => h9) rfl dX5_brakeOf_23 ?_
        refine z_bipush mx mb dX5_brakeOf_26 (by decide +kernel) ?_
        refine z_iload_n mx mb dX5_brakeOf_28 rfl 2 rfl ?_
        refine z_iadd mx mb dX5_brakeOf_29 ?_
        refine z_iald mx mb hK (zgp hP) 1 0 wM_1 rfl (by decide) (by omega) dX5_brakeOf_30 ?_
        refine z_iconst mx mb dX5_brakeOf_31 ?_
        refine z_icmp_ne (tgt := 39) mx mb (by omega) (by omega) dX5_brakeOf_32 (by decide) (fun c32 => ?_) (fun c32 => ?_)
        · skip
          refine z_iconst mx mb dX5_brakeOf_39 ?_
          refine z_isub mx mb dX5_brakeOf_40 ?_
          refine z_istore_n mx mb dX5_brakeOf_41 rfl (by decide) [(3, .int (iZ (x3 - 0))), (0, .ref (a 0)), (1, .int (iZ b)), (2, .int (iZ x2))] rfl ?_
          refine z_iinc mx mb dX5_brakeOf_42 3 rfl (by decide) [(2, .int (iZ (x2 + 1))), (3, .int (iZ (x3 - 0))), (0, .ref (a 0)), (1, .int (iZ b))] rfl ?_
          refine z_goto (tgt := 4) mx mb dX5_brakeOf_45 (by decide) ?_
          refine z_lv [2, 3, 0, 1] rfl ?_
          exact ih (i + 1) _ _ (by omega) (by omega) (by omega) (by first | (rw [cnt, ← e2, if_pos c32, e3]; omega) | (rw [cnt, ← e2, if_neg c32, e3]; omega))
        · skip
          refine z_iconst mx mb dX5_brakeOf_35 ?_
          refine z_goto (tgt := 40) mx mb dX5_brakeOf_36 (by decide) ?_
          refine z_isub mx mb dX5_brakeOf_40 ?_
          refine z_istore_n mx mb dX5_brakeOf_41 rfl (by decide) [(3, .int (iZ (x3 - 1))), (0, .ref (a 0)), (1, .int (iZ b)), (2, .int (iZ x2))] rfl ?_
          refine z_iinc mx mb dX5_brakeOf_42 3 rfl (by decide) [(2, .int (iZ (x2 + 1))), (3, .int (iZ (x3 - 1))), (0, .ref (a 0)), (1, .int (iZ b))] rfl ?_
          refine z_goto (tgt := 4) mx mb dX5_brakeOf_45 (by decide) ?_
          refine z_lv [2, 3, 0, 1] rfl ?_
          exact ih (i + 1) _ _ (by omega) (by omega) (by omega) (by first | (rw [cnt, ← e2, if_pos c32, e3]; omega) | (rw [cnt, ← e2, if_neg c32, e3]; omega))
      · skip
        refine z_iload_n mx mb dX5_brakeOf_17 rfl 3 rfl ?_
        refine z_if_le (tgt := 48) mx mb (by omega) dX5_brakeOf_18 (by decide) (fun c18 => ?_) (fun c18 => ?_)
        · skip
          refine z_iload_n mx mb dX5_brakeOf_48 rfl 2 rfl ?_
          rw [hQ]
          exact z_retP mx mb mr mlk (by omega) dX5_brakeOf_49
        · skip
          refine z_iload_n mx mb dX5_brakeOf_21 rfl 3 rfl ?_
          refine z_aload_n mx mb dX5_brakeOf_22 rfl 0 rfl ?_
          refine z_get (C := RX5) (T := TX5) (N := 8) mx mb mts (in_X5_brakeOf_X5) mo hK (zgp hP) 0 wM_0 rfl 0 (by decide) (mts _ (List.mem_of_getElem? (i := 1) rfl)) (fun _ h9 => h9) rfl dX5_brakeOf_23 ?_
          refine z_bipush mx mb dX5_brakeOf_26 (by decide +kernel) ?_
          refine z_iload_n mx mb dX5_brakeOf_28 rfl 2 rfl ?_
          refine z_iadd mx mb dX5_brakeOf_29 ?_
          refine z_iald mx mb hK (zgp hP) 1 0 wM_1 rfl (by decide) (by omega) dX5_brakeOf_30 ?_
          refine z_iconst mx mb dX5_brakeOf_31 ?_
          refine z_icmp_ne (tgt := 39) mx mb (by omega) (by omega) dX5_brakeOf_32 (by decide) (fun c32 => ?_) (fun c32 => ?_)
          · skip
            refine z_iconst mx mb dX5_brakeOf_39 ?_
            refine z_isub mx mb dX5_brakeOf_40 ?_
            refine z_istore_n mx mb dX5_brakeOf_41 rfl (by decide) [(3, .int (iZ (x3 - 0))), (0, .ref (a 0)), (1, .int (iZ b)), (2, .int (iZ x2))] rfl ?_
            refine z_iinc mx mb dX5_brakeOf_42 3 rfl (by decide) [(2, .int (iZ (x2 + 1))), (3, .int (iZ (x3 - 0))), (0, .ref (a 0)), (1, .int (iZ b))] rfl ?_
            refine z_goto (tgt := 4) mx mb dX5_brakeOf_45 (by decide) ?_
            refine z_lv [2, 3, 0, 1] rfl ?_
            exact ih (i + 1) _ _ (by omega) (by omega) (by omega) (by first | (rw [cnt, ← e2, if_pos c32, e3]; omega) | (rw [cnt, ← e2, if_neg c32, e3]; omega))
          · skip
            refine z_iconst mx mb dX5_brakeOf_35 ?_
            refine z_goto (tgt := 40) mx mb dX5_brakeOf_36 (by decide) ?_
            refine z_isub mx mb dX5_brakeOf_40 ?_
            refine z_istore_n mx mb dX5_brakeOf_41 rfl (by decide) [(3, .int (iZ (x3 - 1))), (0, .ref (a 0)), (1, .int (iZ b)), (2, .int (iZ x2))] rfl ?_
            refine z_iinc mx mb dX5_brakeOf_42 3 rfl (by decide) [(2, .int (iZ (x2 + 1))), (3, .int (iZ (x3 - 1))), (0, .ref (a 0)), (1, .int (iZ b))] rfl ?_
            refine z_goto (tgt := 4) mx mb dX5_brakeOf_45 (by decide) ?_
            refine z_lv [2, 3, 0, 1] rfl ?_
            exact ih (i + 1) _ _ (by omega) (by omega) (by omega) (by first | (rw [cnt, ← e2, if_pos c32, e3]; omega) | (rw [cnt, ← e2, if_neg c32, e3]; omega))
  refine z_lv [2, 3, 1, 0] rfl ?_
  exact lp4 _ 0 0 b (Nat.lt_succ_self _) (by omega) (by rfl) (by simp [cnt])

theorem in_X5_trainIn_X5 : ∀ w ∈ wsX50, w ∈ wsX5_trainIn := by decide +kernel
set_option maxRecDepth 100000 in
set_option maxHeartbeats 4000000 in
theorem c_X5_trainIn (l : Launch) (D : va_G) (y : Nat → ClassId) (a : Nat → Nat) (f sv ai tx : Int → Int) (sm ln th hh : Int) (b : Int) (hb : -100 ≤ b ∧ b ≤ 100) (hW : Wf f) : Met l yX5_trainIn wsX5_trainIn ({ frames := 1, cells := 0, slots := 0, locals := 23 } : Room) (zPp D vwCl (zT y) (wM y a f sv ai tx sm ln th hh) [.ref (a 0), .int (iZ b)]) (vp_Si (fun r => r = iZ (trainIn f b))) 0 0 (fun _ => False) := by
  refine z_headP (cc := cX5_trainIn) (maxL := 4) (ret := (some .int)) [(0, .ref (a 0)), (1, .int (iZ b))] rfl (Nat.le_of_ble_eq_true rfl) (by decide +kernel) rfl ?_
  intro pp ee ss mm below meth cd mx mb mr mml mo mts mlk hK hP
  generalize ([.ref (a 0), .int (iZ b)] : List Value).toArray = args at mts ⊢
  obtain ⟨Q, hQ⟩ : ∃ Q, Q = MQ below (vp_Si (fun r => r = iZ (trainIn f b))) args ss 0 0 (fun _ => False) := ⟨_, rfl⟩
  rw [← hQ]
  obtain ⟨w0, w1, w2, w3, w4, w5, w6⟩ := id hW
  refine z_iconst mx mb dX5_trainIn_0 ?_
  refine z_istore_n mx mb dX5_trainIn_1 rfl (by decide) [(2, .int (iZ (-1))), (0, .ref (a 0)), (1, .int (iZ b))] rfl ?_
  refine z_iconst mx mb dX5_trainIn_2 ?_
  refine z_istore_n mx mb dX5_trainIn_3 rfl (by decide) [(3, .int (iZ 0)), (2, .int (iZ (-1))), (0, .ref (a 0)), (1, .int (iZ b))] rfl ?_
  have lp4 : ∀ (nn : Nat) (i : Nat) (x2 x3 : Int), (f 2).toNat - i < nn → ((i : Int) ≤ f 2) → (x2 = tri f b i) → (x3 = (i : Int)) → Gz pp l ee ({ frames := 1, cells := 0, slots := 0, locals := 23 } : Room) ss mm args below meth cd 4 0 0 Q (Zp ss) 4 [(0, .ref (a 0)), (1, .int (iZ b)), (2, .int (iZ x2)), (3, .int (iZ x3))] [] := by
    intro nn
    induction nn with
    | zero => exact fun i x2 x3 hm => absurd hm (Nat.not_lt_zero _)
    | succ nn ih =>
      intro i x2 x3 hm hi e2 e3
      have r2 := tri_rng f b i
      refine z_iload_n mx mb dX5_trainIn_4 rfl 3 rfl ?_
      refine z_aload_n mx mb dX5_trainIn_5 rfl 0 rfl ?_
      refine z_get (C := RX5) (T := TX5) (N := 8) mx mb mts (in_X5_trainIn_X5) mo hK (zgp hP) 0 wM_0 rfl 0 (by decide) (mts _ (List.mem_of_getElem? (i := 1) rfl)) (fun _ h9 => h9) rfl dX5_trainIn_6 ?_
      refine z_iconst mx mb dX5_trainIn_9 ?_
      refine z_iald mx mb hK (zgp hP) 1 0 wM_1 rfl (by decide) (by omega) dX5_trainIn_10 ?_
      refine z_icmp_ge (tgt := 45) mx mb (by omega) (by omega) dX5_trainIn_11 (by decide) (fun c11 => ?_) (fun c11 => ?_)
      · skip
        have hi2 : i = (f 2).toNat := by omega
        refine z_iload_n mx mb dX5_trainIn_45 rfl 2 rfl ?_
        rw [hQ]
        exact z_retP mx mb mr mlk (by rw [e2, hi2]; rfl) dX5_trainIn_46
      · skip
        have k1 := (w6 x3 (by omega) (by omega)).1
        have k2 := blockAt_rng hW k1
        refine z_iload_n mx mb dX5_trainIn_14 rfl 2 rfl ?_
        refine z_iconst mx mb dX5_trainIn_15 ?_
        refine z_icmp_ne (tgt := 37) mx mb (by omega) (by omega) dX5_trainIn_16 (by decide) (fun c16 => ?_) (fun c16 => ?_)
        · skip
          refine z_iload_n mx mb dX5_trainIn_37 rfl 2 rfl ?_
          refine z_istore_n mx mb dX5_trainIn_38 rfl (by decide) [(2, .int (iZ x2)), (0, .ref (a 0)), (1, .int (iZ b)), (3, .int (iZ x3))] rfl ?_
          refine z_iinc mx mb dX5_trainIn_39 3 rfl (by decide) [(3, .int (iZ (x3 + 1))), (2, .int (iZ x2)), (0, .ref (a 0)), (1, .int (iZ b))] rfl ?_
          refine z_goto (tgt := 4) mx mb dX5_trainIn_42 (by decide) ?_
          refine z_lv [2, 3, 1, 0] rfl ?_
          exact ih (i + 1) _ _ (by omega) (by omega) (by first | (rw [tri, ← e3, if_pos ⟨by rw [← e2]; exact c16, c30⟩]; done) | (rw [tri, ← e3, if_neg (fun q => c30 q.2), e2]; done) | (rw [tri, ← e3, if_neg (fun q => c16 (e2.trans q.1)), e2]; done)) (by omega)
        · skip
          refine z_aload_n mx mb dX5_trainIn_19 rfl 0 rfl ?_
          refine z_aload_n mx mb dX5_trainIn_20 rfl 0 rfl ?_
          refine z_iload_n mx mb dX5_trainIn_21 rfl 3 rfl ?_
          refine z_iconst mx mb dX5_trainIn_22 ?_
          refine z_callP (As := [.int (iZ x3), .int (iZ 0)]) (rest := [.ref (a 0)]) ⟨mx, mb, mml, mo, mts⟩ hK (zgp hP) (c_X5_of l D y a f sv ai tx sm ln th hh x3 0 (by omega)) (cwV 2 mts gX5_trainIn_X5_of rfl rfl rfl (by decide +kernel) ⟨Nat.le_of_ble_eq_true rfl, Nat.le_of_ble_eq_true rfl⟩) (fun _ h => h) 0 wM_0 rfl rfl rfl rfl (Nat.le_of_ble_eq_true rfl) ⟨Nat.zero_le _, Nat.zero_le _⟩ dX5_trainIn_23 ?_
          refine z_callP (As := [.int (iZ (f (79 + 8 * x3 + 0)))]) (rest := []) ⟨mx, mb, mml, mo, mts⟩ hK (zgp hP) (c_X5_blockAt l D y a f sv ai tx sm ln th hh (f (79 + 8 * x3 + 0)) (by omega) (by assumption)) (cwV 1 mts gX5_trainIn_X5_blockAt rfl rfl rfl (by decide +kernel) ⟨Nat.le_of_ble_eq_true rfl, Nat.le_of_ble_eq_true rfl⟩) (fun _ h => h) 0 wM_0 rfl rfl rfl rfl (Nat.le_of_ble_eq_true rfl) ⟨Nat.zero_le _, Nat.zero_le _⟩ dX5_trainIn_26 ?_
          refine z_iload_n mx mb dX5_trainIn_29 rfl 1 rfl ?_
          refine z_icmp_ne (tgt := 37) mx mb (by omega) (by omega) dX5_trainIn_30 (by decide) (fun c30 => ?_) (fun c30 => ?_)
          · skip
            refine z_iload_n mx mb dX5_trainIn_37 rfl 2 rfl ?_
            refine z_istore_n mx mb dX5_trainIn_38 rfl (by decide) [(2, .int (iZ x2)), (0, .ref (a 0)), (1, .int (iZ b)), (3, .int (iZ x3))] rfl ?_
            refine z_iinc mx mb dX5_trainIn_39 3 rfl (by decide) [(3, .int (iZ (x3 + 1))), (2, .int (iZ x2)), (0, .ref (a 0)), (1, .int (iZ b))] rfl ?_
            refine z_goto (tgt := 4) mx mb dX5_trainIn_42 (by decide) ?_
            refine z_lv [2, 3, 1, 0] rfl ?_
            exact ih (i + 1) _ _ (by omega) (by omega) (by first | (rw [tri, ← e3, if_pos ⟨by rw [← e2]; exact c16, c30⟩]; done) | (rw [tri, ← e3, if_neg (fun q => c30 q.2), e2]; done) | (rw [tri, ← e3, if_neg (fun q => c16 (e2.trans q.1)), e2]; done)) (by omega)
          · skip
            refine z_iload_n mx mb dX5_trainIn_33 rfl 3 rfl ?_
            refine z_goto (tgt := 38) mx mb dX5_trainIn_34 (by decide) ?_
            refine z_istore_n mx mb dX5_trainIn_38 rfl (by decide) [(2, .int (iZ x3)), (0, .ref (a 0)), (1, .int (iZ b)), (3, .int (iZ x3))] rfl ?_
            refine z_iinc mx mb dX5_trainIn_39 3 rfl (by decide) [(3, .int (iZ (x3 + 1))), (2, .int (iZ x3)), (0, .ref (a 0)), (1, .int (iZ b))] rfl ?_
            refine z_goto (tgt := 4) mx mb dX5_trainIn_42 (by decide) ?_
            refine z_lv [2, 3, 1, 0] rfl ?_
            exact ih (i + 1) _ _ (by omega) (by omega) (by first | (rw [tri, ← e3, if_pos ⟨by rw [← e2]; exact c16, c30⟩]; done) | (rw [tri, ← e3, if_neg (fun q => c30 q.2), e2]; done) | (rw [tri, ← e3, if_neg (fun q => c16 (e2.trans q.1)), e2]; done)) (by omega)
  refine z_lv [2, 3, 1, 0] rfl ?_
  exact lp4 _ 0 (-1) 0 (Nat.lt_succ_self _) (by omega) (by rfl) (by rfl)

theorem in_X5_isFree_X5 : ∀ w ∈ wsX50, w ∈ wsX5_isFree := by decide +kernel
set_option maxRecDepth 100000 in
set_option maxHeartbeats 4000000 in
theorem c_X5_isFree (l : Launch) (D : va_G) (y : Nat → ClassId) (a : Nat → Nat) (f sv ai tx : Int → Int) (sm ln th hh : Int) (b : Int) (hb : 0 ≤ b ∧ b < f 1) (hW : Wf f) : Met l yX5_isFree wsX5_isFree ({ frames := 2, cells := 0, slots := 0, locals := 46 } : Room) (zPp D vwCl (zT y) (wM y a f sv ai tx sm ln th hh) [.ref (a 0), .int (iZ b)]) (vp_Si (fun r => r = iZ (b2z (isFree f b = true)))) 0 0 (fun _ => False) := by
  refine z_headP (cc := cX5_isFree) (maxL := 5) (ret := (some .boolean)) [(0, .ref (a 0)), (1, .int (iZ b))] rfl (Nat.le_of_ble_eq_true rfl) (by decide +kernel) rfl ?_
  intro pp ee ss mm below meth cd mx mb mr mml mo mts mlk hK hP
  generalize ([.ref (a 0), .int (iZ b)] : List Value).toArray = args at mts ⊢
  obtain ⟨Q, hQ⟩ : ∃ Q, Q = MQ below (vp_Si (fun r => r = iZ (b2z (isFree f b = true)))) args ss 0 0 (fun _ => False) := ⟨_, rfl⟩
  rw [← hQ]
  obtain ⟨w0, w1, w2, w3, w4, w5, w6⟩ := id hW
  have t1 := trainIn_rng hW b
  have a1 := ahead_rng hW hb
  obtain ⟨b0, b1, b2, b3⟩ := brakeOf_spec hW a1
  refine z_aload_n mx mb dX5_isFree_0 rfl 0 rfl ?_
  refine z_iload_n mx mb dX5_isFree_1 rfl 1 rfl ?_
  refine z_callP (As := [.int (iZ b)]) (rest := []) ⟨mx, mb, mml, mo, mts⟩ hK (zgp hP) (c_X5_trainIn l D y a f sv ai tx sm ln th hh b (by omega) (by assumption)) (cwV 1 mts gX5_isFree_X5_trainIn rfl rfl rfl (by decide +kernel) ⟨Nat.le_of_ble_eq_true rfl, Nat.le_of_ble_eq_true rfl⟩) (fun _ h => h) 0 wM_0 rfl rfl rfl rfl (Nat.le_of_ble_eq_true rfl) ⟨Nat.zero_le _, Nat.zero_le _⟩ dX5_isFree_2 ?_
  refine z_iconst mx mb dX5_isFree_5 ?_
  have jn14 : ∀ (x : Int), (x = b2z (trainIn f b = -1)) → Gz pp l ee ({ frames := 2, cells := 0, slots := 0, locals := 46 } : Room) ss mm args below meth cd 5 0 0 Q (Zp ss) 14 [(0, .ref (a 0)), (1, .int (iZ b))] [.int (iZ x)] := by
    intro x ex
    refine z_istore_n mx mb dX5_isFree_14 rfl (by decide) [(2, .int (iZ x)), (0, .ref (a 0)), (1, .int (iZ b))] rfl ?_
    refine z_aload_n mx mb dX5_isFree_15 rfl 1 rfl ?_
    refine z_aload_n mx mb dX5_isFree_16 rfl 1 rfl ?_
    refine z_iload_n mx mb dX5_isFree_17 rfl 2 rfl ?_
    refine z_callP (As := [.int (iZ b)]) (rest := [.ref (a 0)]) ⟨mx, mb, mml, mo, mts⟩ hK (zgp hP) (c_X5_blockAhead l D y a f sv ai tx sm ln th hh b (by omega)) (cwV 1 mts gX5_isFree_X5_blockAhead rfl rfl rfl (by decide +kernel) ⟨Nat.le_of_ble_eq_true rfl, Nat.le_of_ble_eq_true rfl⟩) (fun _ h => h) 0 wM_0 rfl rfl rfl rfl (Nat.le_of_ble_eq_true rfl) ⟨Nat.zero_le _, Nat.zero_le _⟩ dX5_isFree_18 ?_
    refine z_callP (As := [.int (iZ (ahead f b))]) (rest := []) ⟨mx, mb, mml, mo, mts⟩ hK (zgp hP) (c_X5_brakeOf l D y a f sv ai tx sm ln th hh (ahead f b) (by omega) (by assumption)) (cwV 1 mts gX5_isFree_X5_brakeOf rfl rfl rfl (by decide +kernel) ⟨Nat.le_of_ble_eq_true rfl, Nat.le_of_ble_eq_true rfl⟩) (fun _ h => h) 0 wM_0 rfl rfl rfl rfl (Nat.le_of_ble_eq_true rfl) ⟨Nat.zero_le _, Nat.zero_le _⟩ dX5_isFree_21 ?_
    refine z_istore_n mx mb dX5_isFree_24 rfl (by decide) [(3, .int (iZ (brakeOf f (ahead f b)))), (2, .int (iZ x)), (0, .ref (a 0)), (1, .int (iZ b))] rfl ?_
    refine z_iconst mx mb dX5_isFree_25 ?_
    refine z_istore mx mb dX5_isFree_26 (by decide) [(4, .int (iZ 0)), (3, .int (iZ (brakeOf f (ahead f b)))), (2, .int (iZ x)), (0, .ref (a 0)), (1, .int (iZ b))] rfl ?_
    have lp28 : ∀ (nn : Nat) (i : Nat) (x2 x4 : Int), (f 2).toNat - i < nn → ((i : Int) ≤ f 2) → (x2 = b2z (trainIn f b = -1 ∧ nob f (brakeOf f (ahead f b)) i = true)) → (x4 = (i : Int)) → Gz pp l ee ({ frames := 2, cells := 0, slots := 0, locals := 46 } : Room) ss mm args below meth cd 5 0 0 Q (Zp ss) 28 [(0, .ref (a 0)), (1, .int (iZ b)), (2, .int (iZ x2)), (3, .int (iZ (brakeOf f (ahead f b)))), (4, .int (iZ x4))] [] := by
      intro nn
      induction nn with
      | zero => exact fun i x2 x4 hm => absurd hm (Nat.not_lt_zero _)
      | succ nn ih =>
        intro i x2 x4 hm hi e2 e4
        have r2 : -2147483648 ≤ x2 ∧ x2 ≤ 2147483647 := by rw [e2]; exact b2z_rng _
        refine z_iload mx mb dX5_isFree_28 4 rfl ?_
        refine z_aload_n mx mb dX5_isFree_30 rfl 0 rfl ?_
        refine z_get (C := RX5) (T := TX5) (N := 8) mx mb mts (in_X5_isFree_X5) mo hK (zgp hP) 0 wM_0 rfl 0 (by decide) (mts _ (List.mem_of_getElem? (i := 1) rfl)) (fun _ h9 => h9) rfl dX5_isFree_31 ?_
        refine z_iconst mx mb dX5_isFree_34 ?_
        refine z_iald mx mb hK (zgp hP) 1 0 wM_1 rfl (by decide) (by omega) dX5_isFree_35 ?_
        refine z_icmp_ge (tgt := 76) mx mb (by omega) (by omega) dX5_isFree_36 (by decide) (fun c36 => ?_) (fun c36 => ?_)
        · skip
          have hi2 : i = (f 2).toNat := by omega
          refine z_iload_n mx mb dX5_isFree_76 rfl 2 rfl ?_
          rw [hQ]
          exact z_retB mx mb mr mlk (by rw [e2, hi2]; exact b2z_congr isFree_iff.symm) dX5_isFree_77
        · skip
          have k1 := w6 x4 (by omega) (by omega)
          refine z_iload_n mx mb dX5_isFree_39 rfl 2 rfl ?_
          refine z_if_eq (tgt := 68) mx mb (by omega) dX5_isFree_40 (by decide) (fun c40 => ?_) (fun c40 => ?_)
          · skip
            refine z_iconst mx mb dX5_isFree_68 ?_
            refine z_istore_n mx mb dX5_isFree_69 rfl (by decide) [(2, .int (iZ 0)), (0, .ref (a 0)), (1, .int (iZ b)), (3, .int (iZ (brakeOf f (ahead f b)))), (4, .int (iZ x4))] rfl ?_
            refine z_iinc mx mb dX5_isFree_70 4 rfl (by decide) [(4, .int (iZ (x4 + 1))), (2, .int (iZ 0)), (0, .ref (a 0)), (1, .int (iZ b)), (3, .int (iZ (brakeOf f (ahead f b))))] rfl ?_
            refine z_goto (tgt := 28) mx mb dX5_isFree_73 (by decide) ?_
            refine z_lv [2, 3, 1, 4, 0] rfl ?_
            exact ih (i + 1) _ _ (by omega) (by omega) (by exact (b2z_f (fun q => (b2z_e (e2.symm.trans c40)) ⟨q.1, (nob_s.mp q.2).1⟩)).symm) (by omega)
          · skip
            refine z_aload_n mx mb dX5_isFree_43 rfl 0 rfl ?_
            refine z_iload mx mb dX5_isFree_44 4 rfl ?_
            refine z_iconst mx mb dX5_isFree_46 ?_
            refine z_callP (As := [.int (iZ x4), .int (iZ 4)]) (rest := []) ⟨mx, mb, mml, mo, mts⟩ hK (zgp hP) (c_X5_of l D y a f sv ai tx sm ln th hh x4 4 (by omega)) (cwV 2 mts gX5_isFree_X5_of rfl rfl rfl (by decide +kernel) ⟨Nat.le_of_ble_eq_true rfl, Nat.le_of_ble_eq_true rfl⟩) (fun _ h => h) 0 wM_0 rfl rfl rfl rfl (Nat.le_of_ble_eq_true rfl) ⟨Nat.zero_le _, Nat.zero_le _⟩ dX5_isFree_47 ?_
            refine z_if_ne (tgt := 64) mx mb (by omega) dX5_isFree_50 (by decide) (fun c50 => ?_) (fun c50 => ?_)
            · skip
              refine z_iconst mx mb dX5_isFree_64 ?_
              refine z_goto (tgt := 69) mx mb dX5_isFree_65 (by decide) ?_
              refine z_istore_n mx mb dX5_isFree_69 rfl (by decide) [(2, .int (iZ 1)), (0, .ref (a 0)), (1, .int (iZ b)), (3, .int (iZ (brakeOf f (ahead f b)))), (4, .int (iZ x4))] rfl ?_
              refine z_iinc mx mb dX5_isFree_70 4 rfl (by decide) [(4, .int (iZ (x4 + 1))), (2, .int (iZ 1)), (0, .ref (a 0)), (1, .int (iZ b)), (3, .int (iZ (brakeOf f (ahead f b))))] rfl ?_
              refine z_goto (tgt := 28) mx mb dX5_isFree_73 (by decide) ?_
              refine z_lv [2, 3, 1, 4, 0] rfl ?_
              exact ih (i + 1) _ _ (by omega) (by omega) (by exact (b2z_t ⟨(b2z_ne (fun z => c40 (e2.trans z))).1, nob_s.mpr ⟨(b2z_ne (fun z => c40 (e2.trans z))).2, fun q => c50 (by rw [e4]; exact q.1)⟩⟩).symm) (by omega)
            · skip
              refine z_aload_n mx mb dX5_isFree_53 rfl 0 rfl ?_
              refine z_iload mx mb dX5_isFree_54 4 rfl ?_
              refine z_iconst mx mb dX5_isFree_56 ?_
              refine z_callP (As := [.int (iZ x4), .int (iZ 0)]) (rest := []) ⟨mx, mb, mml, mo, mts⟩ hK (zgp hP) (c_X5_of l D y a f sv ai tx sm ln th hh x4 0 (by omega)) (cwV 2 mts gX5_isFree_X5_of rfl rfl rfl (by decide +kernel) ⟨Nat.le_of_ble_eq_true rfl, Nat.le_of_ble_eq_true rfl⟩) (fun _ h => h) 0 wM_0 rfl rfl rfl rfl (Nat.le_of_ble_eq_true rfl) ⟨Nat.zero_le _, Nat.zero_le _⟩ dX5_isFree_57 ?_
              refine z_iload_n mx mb dX5_isFree_60 rfl 3 rfl ?_
              refine z_icmp_eq (tgt := 68) mx mb (by omega) (by omega) dX5_isFree_61 (by decide) (fun c61 => ?_) (fun c61 => ?_)
              · skip
                refine z_iconst mx mb dX5_isFree_68 ?_
                refine z_istore_n mx mb dX5_isFree_69 rfl (by decide) [(2, .int (iZ 0)), (0, .ref (a 0)), (1, .int (iZ b)), (3, .int (iZ (brakeOf f (ahead f b)))), (4, .int (iZ x4))] rfl ?_
                refine z_iinc mx mb dX5_isFree_70 4 rfl (by decide) [(4, .int (iZ (x4 + 1))), (2, .int (iZ 0)), (0, .ref (a 0)), (1, .int (iZ b)), (3, .int (iZ (brakeOf f (ahead f b))))] rfl ?_
                refine z_goto (tgt := 28) mx mb dX5_isFree_73 (by decide) ?_
                refine z_lv [2, 3, 1, 4, 0] rfl ?_
                exact ih (i + 1) _ _ (by omega) (by omega) (by exact (b2z_f (fun q => (nob_s.mp q.2).2 ⟨by rw [← e4]; exact c50, by rw [← e4]; exact c61⟩)).symm) (by omega)
              · skip
                refine z_iconst mx mb dX5_isFree_64 ?_
                refine z_goto (tgt := 69) mx mb dX5_isFree_65 (by decide) ?_
                refine z_istore_n mx mb dX5_isFree_69 rfl (by decide) [(2, .int (iZ 1)), (0, .ref (a 0)), (1, .int (iZ b)), (3, .int (iZ (brakeOf f (ahead f b)))), (4, .int (iZ x4))] rfl ?_
                refine z_iinc mx mb dX5_isFree_70 4 rfl (by decide) [(4, .int (iZ (x4 + 1))), (2, .int (iZ 1)), (0, .ref (a 0)), (1, .int (iZ b)), (3, .int (iZ (brakeOf f (ahead f b))))] rfl ?_
                refine z_goto (tgt := 28) mx mb dX5_isFree_73 (by decide) ?_
                refine z_lv [2, 3, 1, 4, 0] rfl ?_
                exact ih (i + 1) _ _ (by omega) (by omega) (by exact (b2z_t ⟨(b2z_ne (fun z => c40 (e2.trans z))).1, nob_s.mpr ⟨(b2z_ne (fun z => c40 (e2.trans z))).2, fun q => c61 (by rw [e4]; exact q.2)⟩⟩).symm) (by omega)
    refine z_lv [3, 4, 2, 1, 0] rfl ?_
    exact lp28 _ 0 x 0 (Nat.lt_succ_self _) (by omega) (by rw [ex]; exact b2z_congr ⟨fun q => ⟨q, rfl⟩, fun q => q.1⟩) (by rfl)
  refine z_icmp_ne (tgt := 13) mx mb (by omega) (by omega) dX5_isFree_6 (by decide) (fun c6 => ?_) (fun c6 => ?_)
  · skip
    refine z_iconst mx mb dX5_isFree_13 ?_
    exact jn14 _ (by first | exact (b2z_t c6).symm | exact (b2z_f c6).symm)
  · skip
    refine z_iconst mx mb dX5_isFree_9 ?_
    refine z_goto (tgt := 14) mx mb dX5_isFree_10 (by decide) ?_
    exact jn14 _ (by first | exact (b2z_t c6).symm | exact (b2z_f c6).symm)

set_option maxRecDepth 100000 in
set_option maxHeartbeats 4000000 in
theorem c_X5_root (l : Launch) (D : va_G) (y : Nat → ClassId) (n : Int) (hn : 0 ≤ n ∧ n ≤ 9999) : Met l yX5_root wsX5_root ({ frames := 0, cells := 0, slots := 0, locals := 0 } : Room) (zPp D vwCl (zT y) ([]) [.int (iZ n)]) (vp_Si (fun r => r = iZ (root n))) 0 0 (fun _ => False) := by
  refine z_headP (cc := cX5_root) (maxL := 2) (ret := (some .int)) [(0, .int (iZ n))] rfl (Nat.le_of_ble_eq_true rfl) (by decide +kernel) rfl ?_
  intro pp ee ss mm below meth cd mx mb mr mml mo mts mlk hK hP
  generalize ([.int (iZ n)] : List Value).toArray = args at mts ⊢
  obtain ⟨Q, hQ⟩ : ∃ Q, Q = MQ below (vp_Si (fun r => r = iZ (root n))) args ss 0 0 (fun _ => False) := ⟨_, rfl⟩
  rw [← hQ]
  obtain ⟨r0, r1, r2, r3⟩ := root_spec hn
  refine z_iconst mx mb dX5_root_0 ?_
  refine z_istore_n mx mb dX5_root_1 rfl (by decide) [(1, .int (iZ 0)), (0, .int (iZ n))] rfl ?_
  have lp2 : ∀ (nn : Nat) (x1 : Int), 100 - x1.toNat < nn → (0 ≤ x1) → (x1 * x1 ≤ n) → Gz pp l ee ({ frames := 0, cells := 0, slots := 0, locals := 0 } : Room) ss mm args below meth cd 2 0 0 Q (Zp ss) 2 [(0, .int (iZ n)), (1, .int (iZ x1))] [] := by
    intro nn
    induction nn with
    | zero => exact fun x1 hm => absurd hm (Nat.not_lt_zero _)
    | succ nn ih =>
      intro x1 hm h0 h1
      have h99 : x1 ≤ 99 := by
        rcases Int.lt_or_le x1 100 with q | q
        · omega
        · have := sq_mono (show (0 : Int) ≤ 100 by omega) q
          omega
      have hs : (x1 + 1) * (x1 + 1) ≤ 100 * 100 := sq_mono (by omega) (by omega)
      have hs0 : 0 ≤ (x1 + 1) * (x1 + 1) := Int.mul_nonneg (by omega) (by omega)
      refine z_iload_n mx mb dX5_root_2 rfl 1 rfl ?_
      refine z_iconst mx mb dX5_root_3 ?_
      refine z_iadd mx mb dX5_root_4 ?_
      refine z_iload_n mx mb dX5_root_5 rfl 1 rfl ?_
      refine z_iconst mx mb dX5_root_6 ?_
      refine z_iadd mx mb dX5_root_7 ?_
      refine z_imul mx mb dX5_root_8 ?_
      refine z_iload_n mx mb dX5_root_9 rfl 0 rfl ?_
      refine z_icmp_gt (tgt := 19) mx mb (by omega) (by omega) dX5_root_10 (by decide) (fun c10 => ?_) (fun c10 => ?_)
      · skip
        refine z_iload_n mx mb dX5_root_19 rfl 1 rfl ?_
        rw [hQ]
        exact z_retP mx mb mr mlk (by exact root_eq hn h0 h1 (by omega)) dX5_root_20
      · skip
        refine z_iinc mx mb dX5_root_13 1 rfl (by decide) [(1, .int (iZ (x1 + 1))), (0, .int (iZ n))] rfl ?_
        refine z_goto (tgt := 2) mx mb dX5_root_16 (by decide) ?_
        refine z_lv [1, 0] rfl ?_
        exact ih _ (by omega) (by omega) (by omega)
  refine z_lv [1, 0] rfl ?_
  exact lp2 _ 0 (Nat.lt_succ_self _) (by omega) (by omega)

theorem in_X5_drag_X5 : ∀ w ∈ wsX50, w ∈ wsX5_drag := by decide +kernel
set_option maxRecDepth 100000 in
set_option maxHeartbeats 4000000 in
theorem c_X5_drag (l : Launch) (D : va_G) (y : Nat → ClassId) (a : Nat → Nat) (f sv ai tx : Int → Int) (sm ln th hh : Int) (t : Int) (ht : 0 ≤ t ∧ t < 4) (hw : 0 ≤ f (79 + 8 * t + 3) ∧ f (79 + 8 * t + 3) ≤ 1000) : Met l yX5_drag wsX5_drag ({ frames := 1, cells := 0, slots := 0, locals := 22 } : Room) (zPp D vwCl (zT y) (wM y a f sv ai tx sm ln th hh) [.ref (a 0), .int (iZ t)]) (vp_Si (fun r => r = iZ (drag f t))) 0 0 (fun _ => False) := by
  refine z_headP (cc := cX5_drag) (maxL := 3) (ret := (some .int)) [(0, .ref (a 0)), (1, .int (iZ t))] rfl (Nat.le_of_ble_eq_true rfl) (by decide +kernel) rfl ?_
  intro pp ee ss mm below meth cd mx mb mr mml mo mts mlk hK hP
  generalize ([.ref (a 0), .int (iZ t)] : List Value).toArray = args at mts ⊢
  obtain ⟨Q, hQ⟩ : ∃ Q, Q = MQ below (vp_Si (fun r => r = iZ (drag f t))) args ss 0 0 (fun _ => False) := ⟨_, rfl⟩
  rw [← hQ]
  refine z_aload_n mx mb dX5_drag_0 rfl 0 rfl ?_
  refine z_iload_n mx mb dX5_drag_1 rfl 1 rfl ?_
  refine z_iconst mx mb dX5_drag_2 ?_
  refine z_callP (As := [.int (iZ t), .int (iZ 3)]) (rest := []) ⟨mx, mb, mml, mo, mts⟩ hK (zgp hP) (c_X5_of l D y a f sv ai tx sm ln th hh t 3 (by omega)) (cwV 2 mts gX5_drag_X5_of rfl rfl rfl (by decide +kernel) ⟨Nat.le_of_ble_eq_true rfl, Nat.le_of_ble_eq_true rfl⟩) (fun _ h => h) 0 wM_0 rfl rfl rfl rfl (Nat.le_of_ble_eq_true rfl) ⟨Nat.zero_le _, Nat.zero_le _⟩ dX5_drag_3 ?_
  refine z_istore_n mx mb dX5_drag_6 rfl (by decide) [(2, .int (iZ (f (79 + 8 * t + 3)))), (0, .ref (a 0)), (1, .int (iZ t))] rfl ?_
  refine z_aload_n mx mb dX5_drag_7 rfl 1 rfl ?_
  refine z_get (C := RX5) (T := TX5) (N := 8) mx mb mts (in_X5_drag_X5) mo hK (zgp hP) 0 wM_0 rfl 0 (by decide) (mts _ (List.mem_of_getElem? (i := 1) rfl)) (fun _ h9 => h9) rfl dX5_drag_8 ?_
  refine z_iconst mx mb dX5_drag_11 ?_
  refine z_iald mx mb hK (zgp hP) 1 0 wM_1 rfl (by decide) (by omega) dX5_drag_12 ?_
  refine z_iload_n mx mb dX5_drag_13 rfl 0 rfl ?_
  refine z_bipush mx mb dX5_drag_14 (by decide +kernel) ?_
  refine z_icmp_ge (tgt := 29) mx mb (by omega) (by omega) dX5_drag_16 (by decide) (fun c16 => ?_) (fun c16 => ?_)
  · skip
    refine z_iconst mx mb dX5_drag_29 ?_
    refine z_iadd mx mb dX5_drag_30 ?_
    rw [hQ]
    exact z_retP mx mb mr mlk (by unfold drag; first | (rw [if_pos (by omega)]; done) | (rw [if_neg (by omega)]; done)) dX5_drag_31
  · skip
    refine z_bipush mx mb dX5_drag_19 (by decide +kernel) ?_
    refine z_iload_n mx mb dX5_drag_21 rfl 0 rfl ?_
    refine z_isub mx mb dX5_drag_22 ?_
    refine z_bipush mx mb dX5_drag_23 (by decide +kernel) ?_
    refine z_idiv mx mb (by omega) (by omega) dX5_drag_25 ?_
    refine z_goto (tgt := 30) mx mb dX5_drag_26 (by decide) ?_
    refine z_iadd mx mb dX5_drag_30 ?_
    rw [hQ]
    exact z_retP mx mb mr mlk (by unfold drag; first | (rw [if_pos (by omega)]; done) | (rw [if_neg (by omega)]; done)) dX5_drag_31

set_option maxRecDepth 100000 in
set_option maxHeartbeats 4000000 in
theorem c_X5_canBe (l : Launch) (D : va_G) (y : Nat → ClassId) (w v : Int) (hw : 0 ≤ w ∧ w ≤ 3) (hv : -2147483648 ≤ v ∧ v ≤ 2147483647) : Met l yX5_canBe wsX5_canBe ({ frames := 1, cells := 0, slots := 0, locals := 22 } : Room) (zPp D vwCl (zT y) ([]) [.int (iZ w), .int (iZ v)]) (vp_Si (fun r => r = iZ (b2z ((w = 0 ∧ 0 ≤ v ∧ v ≤ 20) ∨ (w = 1 ∧ 1 ≤ v ∧ v ≤ 50) ∨ (w = 2 ∧ 0 ≤ v ∧ v ≤ 500) ∨ (w = 3 ∧ 0 ≤ v ∧ v ≤ 40))))) 0 0 (fun _ => False) := by
  refine z_headP (cc := cX5_canBe) (maxL := 2) (ret := (some .boolean)) [(0, .int (iZ w)), (1, .int (iZ v))] rfl (Nat.le_of_ble_eq_true rfl) (by decide +kernel) rfl ?_
  intro pp ee ss mm below meth cd mx mb mr mml mo mts mlk hK hP
  generalize ([.int (iZ w), .int (iZ v)] : List Value).toArray = args at mts ⊢
  obtain ⟨Q, hQ⟩ : ∃ Q, Q = MQ below (vp_Si (fun r => r = iZ (b2z ((w = 0 ∧ 0 ≤ v ∧ v ≤ 20) ∨ (w = 1 ∧ 1 ≤ v ∧ v ≤ 50) ∨ (w = 2 ∧ 0 ≤ v ∧ v ≤ 500) ∨ (w = 3 ∧ 0 ≤ v ∧ v ≤ 40))))) args ss 0 0 (fun _ => False) := ⟨_, rfl⟩
  rw [← hQ]
  refine z_iload_n mx mb dX5_canBe_0 rfl 0 rfl ?_
  refine z_if_ne (tgt := 14) mx mb (by omega) dX5_canBe_1 (by decide) (fun c1 => ?_) (fun c1 => ?_)
  · skip
    refine z_iload_n mx mb dX5_canBe_14 rfl 0 rfl ?_
    refine z_iconst mx mb dX5_canBe_15 ?_
    refine z_icmp_ne (tgt := 29) mx mb (by omega) (by omega) dX5_canBe_16 (by decide) (fun c16 => ?_) (fun c16 => ?_)
    · skip
      refine z_iload_n mx mb dX5_canBe_29 rfl 0 rfl ?_
      refine z_iconst mx mb dX5_canBe_30 ?_
      refine z_icmp_ne (tgt := 45) mx mb (by omega) (by omega) dX5_canBe_31 (by decide) (fun c31 => ?_) (fun c31 => ?_)
      · skip
        refine z_iload_n mx mb dX5_canBe_45 rfl 1 rfl ?_
        refine z_iconst mx mb dX5_canBe_46 ?_
        refine z_bipush mx mb dX5_canBe_47 (by decide +kernel) ?_
        refine z_callPS (As := [.int (iZ v), .int (iZ 0), .int (iZ 40)]) (rest := []) ⟨mx, mb, mml, mo, mts⟩ hK (zgp hP) (c_X5_in l D y v 0 40 (by omega) (by omega) (by omega)) (cwS 3 mts gX5_canBe_X5_in rfl rfl rfl (by decide +kernel) ⟨Nat.le_of_ble_eq_true rfl, Nat.le_of_ble_eq_true rfl⟩) (fun _ h => nomatch h) rfl rfl (Nat.le_of_ble_eq_true rfl) ⟨Nat.zero_le _, Nat.zero_le _⟩ dX5_canBe_49 ?_
        rw [hQ]
        exact z_retB mx mb mr mlk (by apply b2z_congr; omega) dX5_canBe_52
      · skip
        refine z_iload_n mx mb dX5_canBe_34 rfl 1 rfl ?_
        refine z_iconst mx mb dX5_canBe_35 ?_
        refine z_sipush mx mb dX5_canBe_36 (by decide +kernel) ?_
        refine z_callPS (As := [.int (iZ v), .int (iZ 0), .int (iZ 500)]) (rest := []) ⟨mx, mb, mml, mo, mts⟩ hK (zgp hP) (c_X5_in l D y v 0 500 (by omega) (by omega) (by omega)) (cwS 3 mts gX5_canBe_X5_in rfl rfl rfl (by decide +kernel) ⟨Nat.le_of_ble_eq_true rfl, Nat.le_of_ble_eq_true rfl⟩) (fun _ h => nomatch h) rfl rfl (Nat.le_of_ble_eq_true rfl) ⟨Nat.zero_le _, Nat.zero_le _⟩ dX5_canBe_39 ?_
        refine z_goto (tgt := 52) mx mb dX5_canBe_42 (by decide) ?_
        rw [hQ]
        exact z_retB mx mb mr mlk (by apply b2z_congr; omega) dX5_canBe_52
    · skip
      refine z_iload_n mx mb dX5_canBe_19 rfl 1 rfl ?_
      refine z_iconst mx mb dX5_canBe_20 ?_
      refine z_bipush mx mb dX5_canBe_21 (by decide +kernel) ?_
      refine z_callPS (As := [.int (iZ v), .int (iZ 1), .int (iZ 50)]) (rest := []) ⟨mx, mb, mml, mo, mts⟩ hK (zgp hP) (c_X5_in l D y v 1 50 (by omega) (by omega) (by omega)) (cwS 3 mts gX5_canBe_X5_in rfl rfl rfl (by decide +kernel) ⟨Nat.le_of_ble_eq_true rfl, Nat.le_of_ble_eq_true rfl⟩) (fun _ h => nomatch h) rfl rfl (Nat.le_of_ble_eq_true rfl) ⟨Nat.zero_le _, Nat.zero_le _⟩ dX5_canBe_23 ?_
      refine z_goto (tgt := 52) mx mb dX5_canBe_26 (by decide) ?_
      rw [hQ]
      exact z_retB mx mb mr mlk (by apply b2z_congr; omega) dX5_canBe_52
  · skip
    refine z_iload_n mx mb dX5_canBe_4 rfl 1 rfl ?_
    refine z_iconst mx mb dX5_canBe_5 ?_
    refine z_bipush mx mb dX5_canBe_6 (by decide +kernel) ?_
    refine z_callPS (As := [.int (iZ v), .int (iZ 0), .int (iZ 20)]) (rest := []) ⟨mx, mb, mml, mo, mts⟩ hK (zgp hP) (c_X5_in l D y v 0 20 (by omega) (by omega) (by omega)) (cwS 3 mts gX5_canBe_X5_in rfl rfl rfl (by decide +kernel) ⟨Nat.le_of_ble_eq_true rfl, Nat.le_of_ble_eq_true rfl⟩) (fun _ h => nomatch h) rfl rfl (Nat.le_of_ble_eq_true rfl) ⟨Nat.zero_le _, Nat.zero_le _⟩ dX5_canBe_8 ?_
    refine z_goto (tgt := 52) mx mb dX5_canBe_11 (by decide) ?_
    rw [hQ]
    exact z_retB mx mb mr mlk (by apply b2z_congr; omega) dX5_canBe_52

theorem in_X5_isGap_X5 : ∀ w ∈ wsX50, w ∈ wsX5_isGap := by decide +kernel
set_option maxRecDepth 100000 in
set_option maxHeartbeats 4000000 in
theorem c_X5_isGap (l : Launch) (D : va_G) (y : Nat → ClassId) (a : Nat → Nat) (f sv ai tx : Int → Int) (sm ln th hh : Int) (hN : Ns f) : Met l yX5_isGap wsX5_isGap ({ frames := 0, cells := 0, slots := 0, locals := 0 } : Room) (zPp D vwCl (zT y) (wM y a f sv ai tx sm ln th hh) [.ref (a 0)]) (vp_Si (fun r => r = iZ (b2z (isGap f = true)))) 0 0 (fun _ => False) := by
  refine z_headP (cc := cX5_isGap) (maxL := 1) (ret := (some .boolean)) [(0, .ref (a 0))] rfl (Nat.le_of_ble_eq_true rfl) (by decide +kernel) rfl ?_
  intro pp ee ss mm below meth cd mx mb mr mml mo mts mlk hK hP
  generalize ([.ref (a 0)] : List Value).toArray = args at mts ⊢
  obtain ⟨Q, hQ⟩ : ∃ Q, Q = MQ below (vp_Si (fun r => r = iZ (b2z (isGap f = true)))) args ss 0 0 (fun _ => False) := ⟨_, rfl⟩
  rw [← hQ]
  obtain ⟨n3, n4, n5, n6, n7, n8, n9, n10⟩ := id hN
  refine z_aload_n mx mb dX5_isGap_0 rfl 0 rfl ?_
  refine z_get (C := RX5) (T := TX5) (N := 8) mx mb mts (in_X5_isGap_X5) mo hK (zgp hP) 0 wM_0 rfl 0 (by decide) (mts _ (List.mem_of_getElem? (i := 1) rfl)) (fun _ h9 => h9) rfl dX5_isGap_1 ?_
  refine z_bipush mx mb dX5_isGap_4 (by decide +kernel) ?_
  refine z_iald mx mb hK (zgp hP) 1 0 wM_1 rfl (by decide) (by omega) dX5_isGap_6 ?_
  refine z_iconst mx mb dX5_isGap_7 ?_
  refine z_icmp_eq (tgt := 35) mx mb (by omega) (by omega) dX5_isGap_8 (by decide) (fun c8 => ?_) (fun c8 => ?_)
  · skip
    refine z_iconst mx mb dX5_isGap_35 ?_
    refine z_goto (tgt := 40) mx mb dX5_isGap_36 (by decide) ?_
    rw [hQ]
    exact z_retB mx mb mr mlk (by first | exact (b2z_t (isGap_iff.mpr (by omega))).symm | exact (b2z_f (fun q => by have := isGap_iff.mp q; omega)).symm) dX5_isGap_40
  · skip
    refine z_aload_n mx mb dX5_isGap_11 rfl 0 rfl ?_
    refine z_get (C := RX5) (T := TX5) (N := 8) mx mb mts (in_X5_isGap_X5) mo hK (zgp hP) 0 wM_0 rfl 0 (by decide) (mts _ (List.mem_of_getElem? (i := 1) rfl)) (fun _ h9 => h9) rfl dX5_isGap_12 ?_
    refine z_iconst mx mb dX5_isGap_15 ?_
    refine z_iald mx mb hK (zgp hP) 1 0 wM_1 rfl (by decide) (by omega) dX5_isGap_16 ?_
    refine z_aload_n mx mb dX5_isGap_17 rfl 0 rfl ?_
    refine z_get (C := RX5) (T := TX5) (N := 8) mx mb mts (in_X5_isGap_X5) mo hK (zgp hP) 0 wM_0 rfl 0 (by decide) (mts _ (List.mem_of_getElem? (i := 1) rfl)) (fun _ h9 => h9) rfl dX5_isGap_18 ?_
    refine z_bipush mx mb dX5_isGap_21 (by decide +kernel) ?_
    refine z_iald mx mb hK (zgp hP) 1 0 wM_1 rfl (by decide) (by omega) dX5_isGap_23 ?_
    refine z_isub mx mb dX5_isGap_24 ?_
    refine z_aload_n mx mb dX5_isGap_25 rfl 0 rfl ?_
    refine z_get (C := RX5) (T := TX5) (N := 8) mx mb mts (in_X5_isGap_X5) mo hK (zgp hP) 0 wM_0 rfl 0 (by decide) (mts _ (List.mem_of_getElem? (i := 1) rfl)) (fun _ h9 => h9) rfl dX5_isGap_26 ?_
    refine z_bipush mx mb dX5_isGap_29 (by decide +kernel) ?_
    refine z_iald mx mb hK (zgp hP) 1 0 wM_1 rfl (by decide) (by omega) dX5_isGap_31 ?_
    refine z_icmp_lt (tgt := 39) mx mb (by omega) (by omega) dX5_isGap_32 (by decide) (fun c32 => ?_) (fun c32 => ?_)
    · skip
      refine z_iconst mx mb dX5_isGap_39 ?_
      rw [hQ]
      exact z_retB mx mb mr mlk (by first | exact (b2z_t (isGap_iff.mpr (by omega))).symm | exact (b2z_f (fun q => by have := isGap_iff.mp q; omega)).symm) dX5_isGap_40
    · skip
      refine z_iconst mx mb dX5_isGap_35 ?_
      refine z_goto (tgt := 40) mx mb dX5_isGap_36 (by decide) ?_
      rw [hQ]
      exact z_retB mx mb mr mlk (by first | exact (b2z_t (isGap_iff.mpr (by omega))).symm | exact (b2z_f (fun q => by have := isGap_iff.mp q; omega)).symm) dX5_isGap_40

set_option maxRecDepth 100000 in
set_option maxHeartbeats 4000000 in
theorem c_X5_isAtStation (l : Launch) (D : va_G) (y : Nat → ClassId) (a : Nat → Nat) (f sv ai tx : Int → Int) (sm ln th hh : Int) (t : Int) (ht : 0 ≤ t ∧ t < 4) (hW : Wf f) : Met l yX5_isAtStation wsX5_isAtStation ({ frames := 1, cells := 0, slots := 0, locals := 23 } : Room) (zPp D vwCl (zT y) (wM y a f sv ai tx sm ln th hh) [.ref (a 0), .int (iZ t)]) (vp_Si (fun r => r = iZ (b2z (blockAt f (f (79 + 8 * t + 0)) = 0)))) 0 0 (fun _ => False) := by
  refine z_headP (cc := cX5_isAtStation) (maxL := 2) (ret := (some .boolean)) [(0, .ref (a 0)), (1, .int (iZ t))] rfl (Nat.le_of_ble_eq_true rfl) (by decide +kernel) rfl ?_
  intro pp ee ss mm below meth cd mx mb mr mml mo mts mlk hK hP
  generalize ([.ref (a 0), .int (iZ t)] : List Value).toArray = args at mts ⊢
  obtain ⟨Q, hQ⟩ : ∃ Q, Q = MQ below (vp_Si (fun r => r = iZ (b2z (blockAt f (f (79 + 8 * t + 0)) = 0)))) args ss 0 0 (fun _ => False) := ⟨_, rfl⟩
  rw [← hQ]
  obtain ⟨w0, w1, w2, w3, w4, w5, w6⟩ := id hW
  have k0 := (w6 t (by omega) (by omega)).1
  have k1 := blockAt_rng hW k0
  refine z_aload_n mx mb dX5_isAtStation_0 rfl 0 rfl ?_
  refine z_aload_n mx mb dX5_isAtStation_1 rfl 0 rfl ?_
  refine z_iload_n mx mb dX5_isAtStation_2 rfl 1 rfl ?_
  refine z_iconst mx mb dX5_isAtStation_3 ?_
  refine z_callP (As := [.int (iZ t), .int (iZ 0)]) (rest := [.ref (a 0)]) ⟨mx, mb, mml, mo, mts⟩ hK (zgp hP) (c_X5_of l D y a f sv ai tx sm ln th hh t 0 (by omega)) (cwV 2 mts gX5_isAtStation_X5_of rfl rfl rfl (by decide +kernel) ⟨Nat.le_of_ble_eq_true rfl, Nat.le_of_ble_eq_true rfl⟩) (fun _ h => h) 0 wM_0 rfl rfl rfl rfl (Nat.le_of_ble_eq_true rfl) ⟨Nat.zero_le _, Nat.zero_le _⟩ dX5_isAtStation_4 ?_
  refine z_callP (As := [.int (iZ (f (79 + 8 * t + 0)))]) (rest := []) ⟨mx, mb, mml, mo, mts⟩ hK (zgp hP) (c_X5_blockAt l D y a f sv ai tx sm ln th hh (f (79 + 8 * t + 0)) (by omega) (by assumption)) (cwV 1 mts gX5_isAtStation_X5_blockAt rfl rfl rfl (by decide +kernel) ⟨Nat.le_of_ble_eq_true rfl, Nat.le_of_ble_eq_true rfl⟩) (fun _ h => h) 0 wM_0 rfl rfl rfl rfl (Nat.le_of_ble_eq_true rfl) ⟨Nat.zero_le _, Nat.zero_le _⟩ dX5_isAtStation_7 ?_
  refine z_if_ne (tgt := 17) mx mb (by omega) dX5_isAtStation_10 (by decide) (fun c10 => ?_) (fun c10 => ?_)
  · skip
    refine z_iconst mx mb dX5_isAtStation_17 ?_
    rw [hQ]
    exact z_retB mx mb mr mlk (by first | exact (b2z_t (by omega)).symm | exact (b2z_f (by omega)).symm) dX5_isAtStation_18
  · skip
    refine z_iconst mx mb dX5_isAtStation_13 ?_
    refine z_goto (tgt := 18) mx mb dX5_isAtStation_14 (by decide) ?_
    rw [hQ]
    exact z_retB mx mb mr mlk (by first | exact (b2z_t (by omega)).symm | exact (b2z_f (by omega)).symm) dX5_isAtStation_18

theorem in_X5_holds_X5 : ∀ w ∈ wsX50, w ∈ wsX5_holds := by decide +kernel
set_option maxRecDepth 100000 in
set_option maxHeartbeats 4000000 in
theorem c_X5_holds (l : Launch) (D : va_G) (y : Nat → ClassId) (a : Nat → Nat) (f sv ai tx : Int → Int) (sm ln th hh : Int) (t sd : Int) (ht : 0 ≤ t ∧ t < 4) (hs : 0 ≤ sd ∧ sd ≤ 300000) (hW : Wf f) (hN : Ns f) : Met l yX5_holds wsX5_holds ({ frames := 3, cells := 0, slots := 0, locals := 70 } : Room) (zPp D vwCl (zT y) (wM y a f sv ai tx sm ln th hh) [.ref (a 0), .int (iZ t), .int (iZ sd)]) (vp_Si (fun r => r = iZ (holds f t sd))) 0 0 (fun _ => False) := by
  refine z_headP (cc := cX5_holds) (maxL := 3) (ret := (some .int)) [(0, .ref (a 0)), (1, .int (iZ t)), (2, .int (iZ sd))] rfl (Nat.le_of_ble_eq_true rfl) (by decide +kernel) rfl ?_
  intro pp ee ss mm below meth cd mx mb mr mml mo mts mlk hK hP
  generalize ([.ref (a 0), .int (iZ t), .int (iZ sd)] : List Value).toArray = args at mts ⊢
  obtain ⟨Q, hQ⟩ : ∃ Q, Q = MQ below (vp_Si (fun r => r = iZ (holds f t sd))) args ss 0 0 (fun _ => False) := ⟨_, rfl⟩
  rw [← hQ]
  obtain ⟨w0, w1, w2, w3, w4, w5, w6⟩ := id hW
  obtain ⟨n3, n4, n5, n6, n7, n8, n9, n10⟩ := id hN
  have k0 := (w6 t (by omega) (by omega)).1
  have k1 := blockAt_rng hW k0
  have k2 := nextB_rng hW k1
  refine z_aload_n mx mb dX5_holds_0 rfl 0 rfl ?_
  refine z_aload_n mx mb dX5_holds_1 rfl 0 rfl ?_
  refine z_aload_n mx mb dX5_holds_2 rfl 0 rfl ?_
  refine z_aload_n mx mb dX5_holds_3 rfl 0 rfl ?_
  refine z_iload_n mx mb dX5_holds_4 rfl 1 rfl ?_
  refine z_iconst mx mb dX5_holds_5 ?_
  refine z_callP (As := [.int (iZ t), .int (iZ 0)]) (rest := [.ref (a 0), .ref (a 0), .ref (a 0)]) ⟨mx, mb, mml, mo, mts⟩ hK (zgp hP) (c_X5_of l D y a f sv ai tx sm ln th hh t 0 (by omega)) (cwV 2 mts gX5_holds_X5_of rfl rfl rfl (by decide +kernel) ⟨Nat.le_of_ble_eq_true rfl, Nat.le_of_ble_eq_true rfl⟩) (fun _ h => h) 0 wM_0 rfl rfl rfl rfl (Nat.le_of_ble_eq_true rfl) ⟨Nat.zero_le _, Nat.zero_le _⟩ dX5_holds_6 ?_
  refine z_callP (As := [.int (iZ (f (79 + 8 * t + 0)))]) (rest := [.ref (a 0), .ref (a 0)]) ⟨mx, mb, mml, mo, mts⟩ hK (zgp hP) (c_X5_blockAt l D y a f sv ai tx sm ln th hh (f (79 + 8 * t + 0)) (by omega) (by assumption)) (cwV 1 mts gX5_holds_X5_blockAt rfl rfl rfl (by decide +kernel) ⟨Nat.le_of_ble_eq_true rfl, Nat.le_of_ble_eq_true rfl⟩) (fun _ h => h) 0 wM_0 rfl rfl rfl rfl (Nat.le_of_ble_eq_true rfl) ⟨Nat.zero_le _, Nat.zero_le _⟩ dX5_holds_9 ?_
  refine z_callP (As := [.int (iZ (blockAt f (f (79 + 8 * t + 0))))]) (rest := [.ref (a 0)]) ⟨mx, mb, mml, mo, mts⟩ hK (zgp hP) (c_X5_nextBlock l D y a f sv ai tx sm ln th hh (blockAt f (f (79 + 8 * t + 0))) (by omega) (by omega)) (cwV 1 mts gX5_holds_X5_nextBlock rfl rfl rfl (by decide +kernel) ⟨Nat.le_of_ble_eq_true rfl, Nat.le_of_ble_eq_true rfl⟩) (fun _ h => h) 0 wM_0 rfl rfl rfl rfl (Nat.le_of_ble_eq_true rfl) ⟨Nat.zero_le _, Nat.zero_le _⟩ dX5_holds_12 ?_
  refine z_callP (As := [.int (iZ (nextB f (blockAt f (f (79 + 8 * t + 0)))))]) (rest := []) ⟨mx, mb, mml, mo, mts⟩ hK (zgp hP) (c_X5_isFree l D y a f sv ai tx sm ln th hh (nextB f (blockAt f (f (79 + 8 * t + 0)))) (by omega) (by assumption)) (cwV 1 mts gX5_holds_X5_isFree rfl rfl rfl (by decide +kernel) ⟨Nat.le_of_ble_eq_true rfl, Nat.le_of_ble_eq_true rfl⟩) (fun _ h => h) 0 wM_0 rfl rfl rfl rfl (Nat.le_of_ble_eq_true rfl) ⟨Nat.zero_le _, Nat.zero_le _⟩ dX5_holds_15 ?_
  refine z_if_ne (tgt := 23) mx mb (b2z_rng _) dX5_holds_18 (by decide) (fun c18 => ?_) (fun c18 => ?_)
  · skip
    refine z_aload_n mx mb dX5_holds_23 rfl 0 rfl ?_
    refine z_iload_n mx mb dX5_holds_24 rfl 1 rfl ?_
    refine z_callP (As := [.int (iZ t)]) (rest := []) ⟨mx, mb, mml, mo, mts⟩ hK (zgp hP) (c_X5_isAtStation l D y a f sv ai tx sm ln th hh t (by omega) (by assumption)) (cwV 1 mts gX5_holds_X5_isAtStation rfl rfl rfl (by decide +kernel) ⟨Nat.le_of_ble_eq_true rfl, Nat.le_of_ble_eq_true rfl⟩) (fun _ h => h) 0 wM_0 rfl rfl rfl rfl (Nat.le_of_ble_eq_true rfl) ⟨Nat.zero_le _, Nat.zero_le _⟩ dX5_holds_25 ?_
    refine z_if_ne (tgt := 35) mx mb (b2z_rng _) dX5_holds_28 (by decide) (fun c28 => ?_) (fun c28 => ?_)
    · skip
      refine z_iload_n mx mb dX5_holds_35 rfl 2 rfl ?_
      refine z_aload_n mx mb dX5_holds_36 rfl 0 rfl ?_
      refine z_get (C := RX5) (T := TX5) (N := 8) mx mb mts (in_X5_holds_X5) mo hK (zgp hP) 0 wM_0 rfl 0 (by decide) (mts _ (List.mem_of_getElem? (i := 1) rfl)) (fun _ h9 => h9) rfl dX5_holds_37 ?_
      refine z_iconst mx mb dX5_holds_40 ?_
      refine z_iald mx mb hK (zgp hP) 1 0 wM_1 rfl (by decide) (by omega) dX5_holds_41 ?_
      refine z_icmp_ge (tgt := 49) mx mb (by omega) (by omega) dX5_holds_42 (by decide) (fun c42 => ?_) (fun c42 => ?_)
      · skip
        refine z_aload_n mx mb dX5_holds_49 rfl 0 rfl ?_
        refine z_callP (As := []) (rest := []) ⟨mx, mb, mml, mo, mts⟩ hK (zgp hP) (c_X5_isGap l D y a f sv ai tx sm ln th hh  (by assumption)) (cwV 0 mts gX5_holds_X5_isGap rfl rfl rfl (by decide +kernel) ⟨Nat.le_of_ble_eq_true rfl, Nat.le_of_ble_eq_true rfl⟩) (fun _ h => h) 0 wM_0 rfl rfl rfl rfl (Nat.le_of_ble_eq_true rfl) ⟨Nat.zero_le _, Nat.zero_le _⟩ dX5_holds_50 ?_
        refine z_if_eq (tgt := 60) mx mb (b2z_rng _) dX5_holds_53 (by decide) (fun c53 => ?_) (fun c53 => ?_)
        · skip
          refine z_iconst mx mb dX5_holds_60 ?_
          rw [hQ]
          exact z_retP mx mb mr mlk (by unfold holds; first | (rw [if_neg (b2z_e c18)]; done) | (rw [if_pos (b2z_ne c18)]; first | (rw [if_neg (b2z_e c28)]; done) | (rw [if_pos (b2z_ne c28)]; first | (rw [if_pos c42]; done) | (rw [if_neg (by omega)]; first | (rw [if_neg (b2z_e c53)]; done) | (rw [if_pos (b2z_ne c53)]; done))))) dX5_holds_61
        · skip
          refine z_iconst mx mb dX5_holds_56 ?_
          refine z_goto (tgt := 61) mx mb dX5_holds_57 (by decide) ?_
          rw [hQ]
          exact z_retP mx mb mr mlk (by unfold holds; first | (rw [if_neg (b2z_e c18)]; done) | (rw [if_pos (b2z_ne c18)]; first | (rw [if_neg (b2z_e c28)]; done) | (rw [if_pos (b2z_ne c28)]; first | (rw [if_pos c42]; done) | (rw [if_neg (by omega)]; first | (rw [if_neg (b2z_e c53)]; done) | (rw [if_pos (b2z_ne c53)]; done))))) dX5_holds_61
      · skip
        refine z_iconst mx mb dX5_holds_45 ?_
        refine z_goto (tgt := 61) mx mb dX5_holds_46 (by decide) ?_
        rw [hQ]
        exact z_retP mx mb mr mlk (by unfold holds; first | (rw [if_neg (b2z_e c18)]; done) | (rw [if_pos (b2z_ne c18)]; first | (rw [if_neg (b2z_e c28)]; done) | (rw [if_pos (b2z_ne c28)]; first | (rw [if_pos c42]; done) | (rw [if_neg (by omega)]; first | (rw [if_neg (b2z_e c53)]; done) | (rw [if_pos (b2z_ne c53)]; done))))) dX5_holds_61
    · skip
      refine z_iconst mx mb dX5_holds_31 ?_
      refine z_goto (tgt := 61) mx mb dX5_holds_32 (by decide) ?_
      rw [hQ]
      exact z_retP mx mb mr mlk (by unfold holds; first | (rw [if_neg (b2z_e c18)]; done) | (rw [if_pos (b2z_ne c18)]; first | (rw [if_neg (b2z_e c28)]; done) | (rw [if_pos (b2z_ne c28)]; first | (rw [if_pos c42]; done) | (rw [if_neg (by omega)]; first | (rw [if_neg (b2z_e c53)]; done) | (rw [if_pos (b2z_ne c53)]; done))))) dX5_holds_61
  · skip
    refine z_iconst mx mb dX5_holds_21 ?_
    rw [hQ]
    exact z_retP mx mb mr mlk (by unfold holds; first | (rw [if_neg (b2z_e c18)]; done) | (rw [if_pos (b2z_ne c18)]; first | (rw [if_neg (b2z_e c28)]; done) | (rw [if_pos (b2z_ne c28)]; first | (rw [if_pos c42]; done) | (rw [if_neg (by omega)]; first | (rw [if_neg (b2z_e c53)]; done) | (rw [if_pos (b2z_ne c53)]; done))))) dX5_holds_22

theorem in_X5_squareOn_X5 : ∀ w ∈ wsX50, w ∈ wsX5_squareOn := by decide +kernel
set_option maxRecDepth 100000 in
set_option maxHeartbeats 4000000 in
theorem c_X5_squareOn (l : Launch) (D : va_G) (y : Nat → ClassId) (a : Nat → Nat) (f sv ai tx : Int → Int) (sm ln th hh : Int) (u v sq dr : Int) (hu : 0 ≤ u ∧ u < 30) (hv : 0 ≤ v ∧ v < 30) (hsq : 0 ≤ sq ∧ sq ≤ 10000) (hdr : 0 ≤ dr ∧ dr ≤ 1000) (hW : Wf f) : Met l yX5_squareOn wsX5_squareOn ({ frames := 0, cells := 0, slots := 0, locals := 0 } : Room) (zPp D vwCl (zT y) (wM y a f sv ai tx sm ln th hh) [.ref (a 0), .int (iZ u), .int (iZ v), .int (iZ sq), .int (iZ dr)]) (vp_Si (fun r => r = iZ (squareOn f u v sq dr))) 0 0 (fun _ => False) := by
  refine z_headP (cc := cX5_squareOn) (maxL := 6) (ret := (some .int)) [(0, .ref (a 0)), (1, .int (iZ u)), (2, .int (iZ v)), (3, .int (iZ sq)), (4, .int (iZ dr))] rfl (Nat.le_of_ble_eq_true rfl) (by decide +kernel) rfl ?_
  intro pp ee ss mm below meth cd mx mb mr mml mo mts mlk hK hP
  generalize ([.ref (a 0), .int (iZ u), .int (iZ v), .int (iZ sq), .int (iZ dr)] : List Value).toArray = args at mts ⊢
  obtain ⟨Q, hQ⟩ : ∃ Q, Q = MQ below (vp_Si (fun r => r = iZ (squareOn f u v sq dr))) args ss 0 0 (fun _ => False) := ⟨_, rfl⟩
  rw [← hQ]
  obtain ⟨w0, w1, w2, w3, w4, w5, w6⟩ := id hW
  have k1 := w4 v (by omega) (by omega)
  have k2 := w5 u (by omega) (by omega)
  have k3 := w5 v (by omega) (by omega)
  refine z_aload_n mx mb dX5_squareOn_0 rfl 0 rfl ?_
  refine z_get (C := RX5) (T := TX5) (N := 8) mx mb mts (in_X5_squareOn_X5) mo hK (zgp hP) 0 wM_0 rfl 0 (by decide) (mts _ (List.mem_of_getElem? (i := 1) rfl)) (fun _ h9 => h9) rfl dX5_squareOn_1 ?_
  refine z_bipush mx mb dX5_squareOn_4 (by decide +kernel) ?_
  refine z_iload_n mx mb dX5_squareOn_6 rfl 2 rfl ?_
  refine z_iadd mx mb dX5_squareOn_7 ?_
  refine z_iald mx mb hK (zgp hP) 1 0 wM_1 rfl (by decide) (by omega) dX5_squareOn_8 ?_
  refine z_iconst mx mb dX5_squareOn_9 ?_
  refine z_icmp_ne (tgt := 18) mx mb (by omega) (by omega) dX5_squareOn_10 (by decide) (fun c10 => ?_) (fun c10 => ?_)
  · skip
    refine z_iload_n mx mb dX5_squareOn_18 rfl 3 rfl ?_
    refine z_bipush mx mb dX5_squareOn_19 (by decide +kernel) ?_
    refine z_aload_n mx mb dX5_squareOn_21 rfl 0 rfl ?_
    refine z_get (C := RX5) (T := TX5) (N := 8) mx mb mts (in_X5_squareOn_X5) mo hK (zgp hP) 0 wM_0 rfl 0 (by decide) (mts _ (List.mem_of_getElem? (i := 1) rfl)) (fun _ h9 => h9) rfl dX5_squareOn_22 ?_
    refine z_bipush mx mb dX5_squareOn_25 (by decide +kernel) ?_
    refine z_iload_n mx mb dX5_squareOn_27 rfl 1 rfl ?_
    refine z_iadd mx mb dX5_squareOn_28 ?_
    refine z_iald mx mb hK (zgp hP) 1 0 wM_1 rfl (by decide) (by omega) dX5_squareOn_29 ?_
    refine z_imul mx mb dX5_squareOn_30 ?_
    refine z_iadd mx mb dX5_squareOn_31 ?_
    refine z_bipush mx mb dX5_squareOn_32 (by decide +kernel) ?_
    refine z_aload_n mx mb dX5_squareOn_34 rfl 0 rfl ?_
    refine z_get (C := RX5) (T := TX5) (N := 8) mx mb mts (in_X5_squareOn_X5) mo hK (zgp hP) 0 wM_0 rfl 0 (by decide) (mts _ (List.mem_of_getElem? (i := 1) rfl)) (fun _ h9 => h9) rfl dX5_squareOn_35 ?_
    refine z_bipush mx mb dX5_squareOn_38 (by decide +kernel) ?_
    refine z_iload_n mx mb dX5_squareOn_40 rfl 2 rfl ?_
    refine z_iadd mx mb dX5_squareOn_41 ?_
    refine z_iald mx mb hK (zgp hP) 1 0 wM_1 rfl (by decide) (by omega) dX5_squareOn_42 ?_
    refine z_imul mx mb dX5_squareOn_43 ?_
    refine z_isub mx mb dX5_squareOn_44 ?_
    refine z_iload mx mb dX5_squareOn_45 4 rfl ?_
    refine z_isub mx mb dX5_squareOn_47 ?_
    refine z_istore mx mb dX5_squareOn_48 (by decide) [(5, .int (iZ (((sq + (100 * (f (11 + u)))) - (100 * (f (11 + v)))) - dr))), (0, .ref (a 0)), (1, .int (iZ u)), (2, .int (iZ v)), (3, .int (iZ sq)), (4, .int (iZ dr))] rfl ?_
    refine z_iload mx mb dX5_squareOn_50 0 rfl ?_
    refine z_sipush mx mb dX5_squareOn_52 (by decide +kernel) ?_
    refine z_icmp_le (tgt := 64) mx mb (by omega) (by omega) dX5_squareOn_55 (by decide) (fun c55 => ?_) (fun c55 => ?_)
    · skip
      refine z_iload mx mb dX5_squareOn_64 0 rfl ?_
      rw [hQ]
      exact z_retP mx mb mr mlk (by unfold squareOn sqr; first | (rw [if_pos c10]; first | (rw [if_pos (by omega)]; done) | (rw [if_neg (by omega)]; done)) | (rw [if_neg c10]; first | (rw [if_pos (by omega)]; done) | (rw [if_neg (by omega)]; done))) dX5_squareOn_66
    · skip
      refine z_sipush mx mb dX5_squareOn_58 (by decide +kernel) ?_
      refine z_goto (tgt := 66) mx mb dX5_squareOn_61 (by decide) ?_
      rw [hQ]
      exact z_retP mx mb mr mlk (by unfold squareOn sqr; first | (rw [if_pos c10]; first | (rw [if_pos (by omega)]; done) | (rw [if_neg (by omega)]; done)) | (rw [if_neg c10]; first | (rw [if_pos (by omega)]; done) | (rw [if_neg (by omega)]; done))) dX5_squareOn_66
  · skip
    refine z_bipush mx mb dX5_squareOn_13 (by decide +kernel) ?_
    refine z_goto (tgt := 48) mx mb dX5_squareOn_15 (by decide) ?_
    refine z_istore mx mb dX5_squareOn_48 (by decide) [(5, .int (iZ 25)), (0, .ref (a 0)), (1, .int (iZ u)), (2, .int (iZ v)), (3, .int (iZ sq)), (4, .int (iZ dr))] rfl ?_
    refine z_iload mx mb dX5_squareOn_50 0 rfl ?_
    refine z_sipush mx mb dX5_squareOn_52 (by decide +kernel) ?_
    refine z_icmp_le (tgt := 64) mx mb (by omega) (by omega) dX5_squareOn_55 (by decide) (fun c55 => ?_) (fun c55 => ?_)
    · skip
      refine z_iload mx mb dX5_squareOn_64 0 rfl ?_
      rw [hQ]
      exact z_retP mx mb mr mlk (by unfold squareOn sqr; first | (rw [if_pos c10]; first | (rw [if_pos (by omega)]; done) | (rw [if_neg (by omega)]; done)) | (rw [if_neg c10]; first | (rw [if_pos (by omega)]; done) | (rw [if_neg (by omega)]; done))) dX5_squareOn_66
    · skip
      refine z_sipush mx mb dX5_squareOn_58 (by decide +kernel) ?_
      refine z_goto (tgt := 66) mx mb dX5_squareOn_61 (by decide) ?_
      rw [hQ]
      exact z_retP mx mb mr mlk (by unfold squareOn sqr; first | (rw [if_pos c10]; first | (rw [if_pos (by omega)]; done) | (rw [if_neg (by omega)]; done)) | (rw [if_neg c10]; first | (rw [if_pos (by omega)]; done) | (rw [if_neg (by omega)]; done))) dX5_squareOn_66

theorem in_X5_trainOn_X5 : ∀ w ∈ wsX50, w ∈ wsX5_trainOn := by decide +kernel
set_option maxRecDepth 100000 in
set_option maxHeartbeats 4000000 in
theorem c_X5_trainOn (l : Launch) (D : va_G) (y : Nat → ClassId) (a : Nat → Nat) (f sv ai tx : Int → Int) (sm ln th hh : Int) (c : Int) (hc : 0 ≤ c ∧ c ≤ 100) (hW : Wf f) : Met l yX5_trainOn wsX5_trainOn ({ frames := 1, cells := 0, slots := 0, locals := 22 } : Room) (zPp D vwCl (zT y) (wM y a f sv ai tx sm ln th hh) [.ref (a 0), .int (iZ c)]) (vp_Si (fun r => r = iZ (tro f c (f 2).toNat))) 0 0 (fun _ => False) := by
  refine z_headP (cc := cX5_trainOn) (maxL := 4) (ret := (some .int)) [(0, .ref (a 0)), (1, .int (iZ c))] rfl (Nat.le_of_ble_eq_true rfl) (by decide +kernel) rfl ?_
  intro pp ee ss mm below meth cd mx mb mr mml mo mts mlk hK hP
  generalize ([.ref (a 0), .int (iZ c)] : List Value).toArray = args at mts ⊢
  obtain ⟨Q, hQ⟩ : ∃ Q, Q = MQ below (vp_Si (fun r => r = iZ (tro f c (f 2).toNat))) args ss 0 0 (fun _ => False) := ⟨_, rfl⟩
  rw [← hQ]
  obtain ⟨w0, w1, w2, w3, w4, w5, w6⟩ := id hW
  refine z_iconst mx mb dX5_trainOn_0 ?_
  refine z_istore_n mx mb dX5_trainOn_1 rfl (by decide) [(2, .int (iZ (-1))), (0, .ref (a 0)), (1, .int (iZ c))] rfl ?_
  refine z_iconst mx mb dX5_trainOn_2 ?_
  refine z_istore_n mx mb dX5_trainOn_3 rfl (by decide) [(3, .int (iZ 0)), (2, .int (iZ (-1))), (0, .ref (a 0)), (1, .int (iZ c))] rfl ?_
  have lp4 : ∀ (nn : Nat) (i : Nat) (x2 x3 : Int), (f 2).toNat - i < nn → ((i : Int) ≤ f 2) → (x2 = tro f c i) → (x3 = (i : Int)) → Gz pp l ee ({ frames := 1, cells := 0, slots := 0, locals := 22 } : Room) ss mm args below meth cd 4 0 0 Q (Zp ss) 4 [(0, .ref (a 0)), (1, .int (iZ c)), (2, .int (iZ x2)), (3, .int (iZ x3))] [] := by
    intro nn
    induction nn with
    | zero => exact fun i x2 x3 hm => absurd hm (Nat.not_lt_zero _)
    | succ nn ih =>
      intro i x2 x3 hm hi e2 e3
      refine z_iload_n mx mb dX5_trainOn_4 rfl 3 rfl ?_
      refine z_aload_n mx mb dX5_trainOn_5 rfl 0 rfl ?_
      refine z_get (C := RX5) (T := TX5) (N := 8) mx mb mts (in_X5_trainOn_X5) mo hK (zgp hP) 0 wM_0 rfl 0 (by decide) (mts _ (List.mem_of_getElem? (i := 1) rfl)) (fun _ h9 => h9) rfl dX5_trainOn_6 ?_
      refine z_iconst mx mb dX5_trainOn_9 ?_
      refine z_iald mx mb hK (zgp hP) 1 0 wM_1 rfl (by decide) (by omega) dX5_trainOn_10 ?_
      refine z_icmp_ge (tgt := 36) mx mb (by omega) (by omega) dX5_trainOn_11 (by decide) (fun c11 => ?_) (fun c11 => ?_)
      · skip
        have hi2 : i = (f 2).toNat := by omega
        refine z_iload_n mx mb dX5_trainOn_36 rfl 2 rfl ?_
        rw [hQ]
        exact z_retP mx mb mr mlk (by rw [e2, hi2]) dX5_trainOn_37
      · skip
        have k1 := (w6 x3 (by omega) (by omega)).1
        refine z_aload_n mx mb dX5_trainOn_14 rfl 0 rfl ?_
        refine z_iload_n mx mb dX5_trainOn_15 rfl 3 rfl ?_
        refine z_iconst mx mb dX5_trainOn_16 ?_
        refine z_callP (As := [.int (iZ x3), .int (iZ 0)]) (rest := []) ⟨mx, mb, mml, mo, mts⟩ hK (zgp hP) (c_X5_of l D y a f sv ai tx sm ln th hh x3 0 (by omega)) (cwV 2 mts gX5_trainOn_X5_of rfl rfl rfl (by decide +kernel) ⟨Nat.le_of_ble_eq_true rfl, Nat.le_of_ble_eq_true rfl⟩) (fun _ h => h) 0 wM_0 rfl rfl rfl rfl (Nat.le_of_ble_eq_true rfl) ⟨Nat.zero_le _, Nat.zero_le _⟩ dX5_trainOn_17 ?_
        refine z_iload_n mx mb dX5_trainOn_20 rfl 1 rfl ?_
        refine z_icmp_ne (tgt := 28) mx mb (by omega) (by omega) dX5_trainOn_21 (by decide) (fun c21 => ?_) (fun c21 => ?_)
        · skip
          refine z_iload_n mx mb dX5_trainOn_28 rfl 2 rfl ?_
          refine z_istore_n mx mb dX5_trainOn_29 rfl (by decide) [(2, .int (iZ x2)), (0, .ref (a 0)), (1, .int (iZ c)), (3, .int (iZ x3))] rfl ?_
          refine z_iinc mx mb dX5_trainOn_30 3 rfl (by decide) [(3, .int (iZ (x3 + 1))), (2, .int (iZ x2)), (0, .ref (a 0)), (1, .int (iZ c))] rfl ?_
          refine z_goto (tgt := 4) mx mb dX5_trainOn_33 (by decide) ?_
          refine z_lv [2, 3, 1, 0] rfl ?_
          exact ih (i + 1) _ _ (by omega) (by omega) (by first | (rw [tro, ← e3, if_pos c21]; done) | (rw [tro, ← e3, if_neg c21, e2]; done)) (by omega)
        · skip
          refine z_iload_n mx mb dX5_trainOn_24 rfl 3 rfl ?_
          refine z_goto (tgt := 29) mx mb dX5_trainOn_25 (by decide) ?_
          refine z_istore_n mx mb dX5_trainOn_29 rfl (by decide) [(2, .int (iZ x3)), (0, .ref (a 0)), (1, .int (iZ c)), (3, .int (iZ x3))] rfl ?_
          refine z_iinc mx mb dX5_trainOn_30 3 rfl (by decide) [(3, .int (iZ (x3 + 1))), (2, .int (iZ x3)), (0, .ref (a 0)), (1, .int (iZ c))] rfl ?_
          refine z_goto (tgt := 4) mx mb dX5_trainOn_33 (by decide) ?_
          refine z_lv [2, 3, 1, 0] rfl ?_
          exact ih (i + 1) _ _ (by omega) (by omega) (by first | (rw [tro, ← e3, if_pos c21]; done) | (rw [tro, ← e3, if_neg c21, e2]; done)) (by omega)
  refine z_lv [2, 3, 1, 0] rfl ?_
  exact lp4 _ 0 (-1) 0 (Nat.lt_succ_self _) (by omega) (by rfl) (by rfl)

theorem in_X5_cellOf_X5 : ∀ w ∈ wsX50, w ∈ wsX5_cellOf := by decide +kernel
set_option maxRecDepth 100000 in
set_option maxHeartbeats 4000000 in
theorem c_X5_cellOf (l : Launch) (D : va_G) (y : Nat → ClassId) (a : Nat → Nat) (f sv ai tx : Int → Int) (sm ln th hh : Int) (c w : Int) (hc : 0 ≤ c ∧ c < 30) (hw : 0 ≤ w ∧ w ≤ 3) (hW : Wf f) : Met l yX5_cellOf wsX5_cellOf ({ frames := 2, cells := 0, slots := 0, locals := 45 } : Room) (zPp D vwCl (zT y) (wM y a f sv ai tx sm ln th hh) [.ref (a 0), .int (iZ c), .int (iZ w)]) (vp_Si (fun r => r = iZ (cellOf f c w))) 0 0 (fun _ => False) := by
  refine z_headP (cc := cX5_cellOf) (maxL := 3) (ret := (some .int)) [(0, .ref (a 0)), (1, .int (iZ c)), (2, .int (iZ w))] rfl (Nat.le_of_ble_eq_true rfl) (by decide +kernel) rfl ?_
  intro pp ee ss mm below meth cd mx mb mr mml mo mts mlk hK hP
  generalize ([.ref (a 0), .int (iZ c), .int (iZ w)] : List Value).toArray = args at mts ⊢
  obtain ⟨Q, hQ⟩ : ∃ Q, Q = MQ below (vp_Si (fun r => r = iZ (cellOf f c w))) args ss 0 0 (fun _ => False) := ⟨_, rfl⟩
  rw [← hQ]
  obtain ⟨w0, w1, w2, w3, w4, w5, w6⟩ := id hW
  refine z_iload_n mx mb dX5_cellOf_0 rfl 2 rfl ?_
  refine z_if_ne (tgt := 16) mx mb (by omega) dX5_cellOf_1 (by decide) (fun c1 => ?_) (fun c1 => ?_)
  · skip
    refine z_iload_n mx mb dX5_cellOf_16 rfl 2 rfl ?_
    refine z_iconst mx mb dX5_cellOf_17 ?_
    refine z_icmp_ne (tgt := 33) mx mb (by omega) (by omega) dX5_cellOf_18 (by decide) (fun c18 => ?_) (fun c18 => ?_)
    · skip
      refine z_iload_n mx mb dX5_cellOf_33 rfl 2 rfl ?_
      refine z_iconst mx mb dX5_cellOf_34 ?_
      refine z_icmp_ne (tgt := 46) mx mb (by omega) (by omega) dX5_cellOf_35 (by decide) (fun c35 => ?_) (fun c35 => ?_)
      · skip
        refine z_aload_n mx mb dX5_cellOf_46 rfl 0 rfl ?_
        refine z_iload_n mx mb dX5_cellOf_47 rfl 1 rfl ?_
        refine z_callP (As := [.int (iZ c)]) (rest := []) ⟨mx, mb, mml, mo, mts⟩ hK (zgp hP) (c_X5_trainOn l D y a f sv ai tx sm ln th hh c (by omega) (by assumption)) (cwV 1 mts gX5_cellOf_X5_trainOn rfl rfl rfl (by decide +kernel) ⟨Nat.le_of_ble_eq_true rfl, Nat.le_of_ble_eq_true rfl⟩) (fun _ h => h) 0 wM_0 rfl rfl rfl rfl (Nat.le_of_ble_eq_true rfl) ⟨Nat.zero_le _, Nat.zero_le _⟩ dX5_cellOf_48 ?_
        rw [hQ]
        exact z_retP mx mb mr mlk (by unfold cellOf; first | (rw [if_pos (by omega)]; done) | (rw [if_neg (by omega), if_pos (by omega)]; done) | (rw [if_neg (by omega), if_neg (by omega), if_pos (by omega)]; done) | (rw [if_neg (by omega), if_neg (by omega), if_neg (by omega)]; done)) dX5_cellOf_51
      · skip
        refine z_aload_n mx mb dX5_cellOf_38 rfl 0 rfl ?_
        refine z_iload_n mx mb dX5_cellOf_39 rfl 1 rfl ?_
        refine z_callP (As := [.int (iZ c)]) (rest := []) ⟨mx, mb, mml, mo, mts⟩ hK (zgp hP) (c_X5_blockAt l D y a f sv ai tx sm ln th hh c (by omega) (by assumption)) (cwV 1 mts gX5_cellOf_X5_blockAt rfl rfl rfl (by decide +kernel) ⟨Nat.le_of_ble_eq_true rfl, Nat.le_of_ble_eq_true rfl⟩) (fun _ h => h) 0 wM_0 rfl rfl rfl rfl (Nat.le_of_ble_eq_true rfl) ⟨Nat.zero_le _, Nat.zero_le _⟩ dX5_cellOf_40 ?_
        refine z_goto (tgt := 51) mx mb dX5_cellOf_43 (by decide) ?_
        rw [hQ]
        exact z_retP mx mb mr mlk (by unfold cellOf; first | (rw [if_pos (by omega)]; done) | (rw [if_neg (by omega), if_pos (by omega)]; done) | (rw [if_neg (by omega), if_neg (by omega), if_pos (by omega)]; done) | (rw [if_neg (by omega), if_neg (by omega), if_neg (by omega)]; done)) dX5_cellOf_51
    · skip
      refine z_aload_n mx mb dX5_cellOf_21 rfl 0 rfl ?_
      refine z_get (C := RX5) (T := TX5) (N := 8) mx mb mts (in_X5_cellOf_X5) mo hK (zgp hP) 0 wM_0 rfl 0 (by decide) (mts _ (List.mem_of_getElem? (i := 1) rfl)) (fun _ h9 => h9) rfl dX5_cellOf_22 ?_
      refine z_bipush mx mb dX5_cellOf_25 (by decide +kernel) ?_
      refine z_iload_n mx mb dX5_cellOf_27 rfl 1 rfl ?_
      refine z_iadd mx mb dX5_cellOf_28 ?_
      refine z_iald mx mb hK (zgp hP) 1 0 wM_1 rfl (by decide) (by omega) dX5_cellOf_29 ?_
      refine z_goto (tgt := 51) mx mb dX5_cellOf_30 (by decide) ?_
      rw [hQ]
      exact z_retP mx mb mr mlk (by unfold cellOf; first | (rw [if_pos (by omega)]; done) | (rw [if_neg (by omega), if_pos (by omega)]; done) | (rw [if_neg (by omega), if_neg (by omega), if_pos (by omega)]; done) | (rw [if_neg (by omega), if_neg (by omega), if_neg (by omega)]; done)) dX5_cellOf_51
  · skip
    refine z_aload_n mx mb dX5_cellOf_4 rfl 0 rfl ?_
    refine z_get (C := RX5) (T := TX5) (N := 8) mx mb mts (in_X5_cellOf_X5) mo hK (zgp hP) 0 wM_0 rfl 0 (by decide) (mts _ (List.mem_of_getElem? (i := 1) rfl)) (fun _ h9 => h9) rfl dX5_cellOf_5 ?_
    refine z_bipush mx mb dX5_cellOf_8 (by decide +kernel) ?_
    refine z_iload_n mx mb dX5_cellOf_10 rfl 1 rfl ?_
    refine z_iadd mx mb dX5_cellOf_11 ?_
    refine z_iald mx mb hK (zgp hP) 1 0 wM_1 rfl (by decide) (by omega) dX5_cellOf_12 ?_
    refine z_goto (tgt := 51) mx mb dX5_cellOf_13 (by decide) ?_
    rw [hQ]
    exact z_retP mx mb mr mlk (by unfold cellOf; first | (rw [if_pos (by omega)]; done) | (rw [if_neg (by omega), if_pos (by omega)]; done) | (rw [if_neg (by omega), if_neg (by omega), if_pos (by omega)]; done) | (rw [if_neg (by omega), if_neg (by omega), if_neg (by omega)]; done)) dX5_cellOf_51

theorem in_X5_cellsOf_X5 : ∀ w ∈ wsX50, w ∈ wsX5_cellsOf := by decide +kernel
set_option maxRecDepth 100000 in
set_option maxHeartbeats 4000000 in
theorem c_X5_cellsOf (l : Launch) (D : va_G) (y : Nat → ClassId) (a : Nat → Nat) (f sv ai tx : Int → Int) (sm ln th hh : Int) (b : Int) (hb : 0 ≤ b ∧ b ≤ 100) (hW : Wf f) : Met l yX5_cellsOf wsX5_cellsOf ({ frames := 1, cells := 0, slots := 0, locals := 23 } : Room) (zPp D vwCl (zT y) (wM y a f sv ai tx sm ln th hh) [.ref (a 0), .int (iZ b)]) (vp_Si (fun r => r = iZ (cls f b (f 0).toNat))) 0 0 (fun _ => False) := by
  refine z_headP (cc := cX5_cellsOf) (maxL := 4) (ret := (some .int)) [(0, .ref (a 0)), (1, .int (iZ b))] rfl (Nat.le_of_ble_eq_true rfl) (by decide +kernel) rfl ?_
  intro pp ee ss mm below meth cd mx mb mr mml mo mts mlk hK hP
  generalize ([.ref (a 0), .int (iZ b)] : List Value).toArray = args at mts ⊢
  obtain ⟨Q, hQ⟩ : ∃ Q, Q = MQ below (vp_Si (fun r => r = iZ (cls f b (f 0).toNat))) args ss 0 0 (fun _ => False) := ⟨_, rfl⟩
  rw [← hQ]
  obtain ⟨w0, w1, w2, w3, w4, w5, w6⟩ := id hW
  refine z_iconst mx mb dX5_cellsOf_0 ?_
  refine z_istore_n mx mb dX5_cellsOf_1 rfl (by decide) [(2, .int (iZ 0)), (0, .ref (a 0)), (1, .int (iZ b))] rfl ?_
  refine z_iconst mx mb dX5_cellsOf_2 ?_
  refine z_istore_n mx mb dX5_cellsOf_3 rfl (by decide) [(3, .int (iZ 0)), (2, .int (iZ 0)), (0, .ref (a 0)), (1, .int (iZ b))] rfl ?_
  have lp4 : ∀ (nn : Nat) (i : Nat) (x2 x3 : Int), (f 0).toNat - i < nn → ((i : Int) ≤ f 0) → (x2 = cls f b i) → (x3 = (i : Int)) → Gz pp l ee ({ frames := 1, cells := 0, slots := 0, locals := 23 } : Room) ss mm args below meth cd 4 0 0 Q (Zp ss) 4 [(0, .ref (a 0)), (1, .int (iZ b)), (2, .int (iZ x2)), (3, .int (iZ x3))] [] := by
    intro nn
    induction nn with
    | zero => exact fun i x2 x3 hm => absurd hm (Nat.not_lt_zero _)
    | succ nn ih =>
      intro i x2 x3 hm hi e2 e3
      refine z_iload_n mx mb dX5_cellsOf_4 rfl 3 rfl ?_
      refine z_aload_n mx mb dX5_cellsOf_5 rfl 0 rfl ?_
      refine z_get (C := RX5) (T := TX5) (N := 8) mx mb mts (in_X5_cellsOf_X5) mo hK (zgp hP) 0 wM_0 rfl 0 (by decide) (mts _ (List.mem_of_getElem? (i := 1) rfl)) (fun _ h9 => h9) rfl dX5_cellsOf_6 ?_
      refine z_iconst mx mb dX5_cellsOf_9 ?_
      refine z_iald mx mb hK (zgp hP) 1 0 wM_1 rfl (by decide) (by omega) dX5_cellsOf_10 ?_
      refine z_icmp_ge (tgt := 37) mx mb (by omega) (by omega) dX5_cellsOf_11 (by decide) (fun c11 => ?_) (fun c11 => ?_)
      · skip
        have hi2 : i = (f 0).toNat := by omega
        refine z_iload_n mx mb dX5_cellsOf_37 rfl 2 rfl ?_
        rw [hQ]
        exact z_retP mx mb mr mlk (by rw [e2, hi2]) dX5_cellsOf_38
      · skip
        have k1 := blockAt_rng hW (show 0 ≤ x3 ∧ x3 < f 0 by omega)
        refine z_iload_n mx mb dX5_cellsOf_14 rfl 2 rfl ?_
        refine z_aload_n mx mb dX5_cellsOf_15 rfl 0 rfl ?_
        refine z_iload_n mx mb dX5_cellsOf_16 rfl 3 rfl ?_
        refine z_callP (As := [.int (iZ x3)]) (rest := [.int (iZ x2)]) ⟨mx, mb, mml, mo, mts⟩ hK (zgp hP) (c_X5_blockAt l D y a f sv ai tx sm ln th hh x3 (by omega) (by assumption)) (cwV 1 mts gX5_cellsOf_X5_blockAt rfl rfl rfl (by decide +kernel) ⟨Nat.le_of_ble_eq_true rfl, Nat.le_of_ble_eq_true rfl⟩) (fun _ h => h) 0 wM_0 rfl rfl rfl rfl (Nat.le_of_ble_eq_true rfl) ⟨Nat.zero_le _, Nat.zero_le _⟩ dX5_cellsOf_17 ?_
        refine z_iload_n mx mb dX5_cellsOf_20 rfl 1 rfl ?_
        refine z_icmp_ne (tgt := 28) mx mb (by omega) (by omega) dX5_cellsOf_21 (by decide) (fun c21 => ?_) (fun c21 => ?_)
        · skip
          refine z_iconst mx mb dX5_cellsOf_28 ?_
          refine z_iadd mx mb dX5_cellsOf_29 ?_
          refine z_istore_n mx mb dX5_cellsOf_30 rfl (by decide) [(2, .int (iZ (x2 + 0))), (0, .ref (a 0)), (1, .int (iZ b)), (3, .int (iZ x3))] rfl ?_
          refine z_iinc mx mb dX5_cellsOf_31 3 rfl (by decide) [(3, .int (iZ (x3 + 1))), (2, .int (iZ (x2 + 0))), (0, .ref (a 0)), (1, .int (iZ b))] rfl ?_
          refine z_goto (tgt := 4) mx mb dX5_cellsOf_34 (by decide) ?_
          refine z_lv [2, 3, 1, 0] rfl ?_
          exact ih (i + 1) _ _ (by omega) (by omega) (by first | (rw [cls, ← e3, if_pos c21, e2]; done) | (rw [cls, ← e3, if_neg c21, e2]; done)) (by omega)
        · skip
          refine z_iconst mx mb dX5_cellsOf_24 ?_
          refine z_goto (tgt := 29) mx mb dX5_cellsOf_25 (by decide) ?_
          refine z_iadd mx mb dX5_cellsOf_29 ?_
          refine z_istore_n mx mb dX5_cellsOf_30 rfl (by decide) [(2, .int (iZ (x2 + 1))), (0, .ref (a 0)), (1, .int (iZ b)), (3, .int (iZ x3))] rfl ?_
          refine z_iinc mx mb dX5_cellsOf_31 3 rfl (by decide) [(3, .int (iZ (x3 + 1))), (2, .int (iZ (x2 + 1))), (0, .ref (a 0)), (1, .int (iZ b))] rfl ?_
          refine z_goto (tgt := 4) mx mb dX5_cellsOf_34 (by decide) ?_
          refine z_lv [2, 3, 1, 0] rfl ?_
          exact ih (i + 1) _ _ (by omega) (by omega) (by first | (rw [cls, ← e3, if_pos c21, e2]; done) | (rw [cls, ← e3, if_neg c21, e2]; done)) (by omega)
  refine z_lv [2, 3, 1, 0] rfl ?_
  exact lp4 _ 0 0 0 (Nat.lt_succ_self _) (by omega) (by rfl) (by rfl)

theorem in_X5_lyingOnes_X5 : ∀ w ∈ wsX50, w ∈ wsX5_lyingOnes := by decide +kernel
set_option maxRecDepth 100000 in
set_option maxHeartbeats 4000000 in
theorem c_X5_lyingOnes (l : Launch) (D : va_G) (y : Nat → ClassId) (a : Nat → Nat) (f sv ai tx : Int → Int) (sm ln th hh : Int) (hW : Wf f) : Met l yX5_lyingOnes wsX5_lyingOnes ({ frames := 1, cells := 0, slots := 0, locals := 22 } : Room) (zPp D vwCl (zT y) (wM y a f sv ai tx sm ln th hh) [.ref (a 0)]) (vp_Si (fun r => r = iZ (lyn f (f 2).toNat))) 0 0 (fun _ => False) := by
  refine z_headP (cc := cX5_lyingOnes) (maxL := 3) (ret := (some .int)) [(0, .ref (a 0))] rfl (Nat.le_of_ble_eq_true rfl) (by decide +kernel) rfl ?_
  intro pp ee ss mm below meth cd mx mb mr mml mo mts mlk hK hP
  generalize ([.ref (a 0)] : List Value).toArray = args at mts ⊢
  obtain ⟨Q, hQ⟩ : ∃ Q, Q = MQ below (vp_Si (fun r => r = iZ (lyn f (f 2).toNat))) args ss 0 0 (fun _ => False) := ⟨_, rfl⟩
  rw [← hQ]
  obtain ⟨w0, w1, w2, w3, w4, w5, w6⟩ := id hW
  refine z_iconst mx mb dX5_lyingOnes_0 ?_
  refine z_istore_n mx mb dX5_lyingOnes_1 rfl (by decide) [(1, .int (iZ 0)), (0, .ref (a 0))] rfl ?_
  refine z_iconst mx mb dX5_lyingOnes_2 ?_
  refine z_istore_n mx mb dX5_lyingOnes_3 rfl (by decide) [(2, .int (iZ 0)), (1, .int (iZ 0)), (0, .ref (a 0))] rfl ?_
  have lp4 : ∀ (nn : Nat) (i : Nat) (x1 x2 : Int), (f 2).toNat - i < nn → ((i : Int) ≤ f 2) → (x1 = lyn f i) → (x2 = (i : Int)) → Gz pp l ee ({ frames := 1, cells := 0, slots := 0, locals := 22 } : Room) ss mm args below meth cd 3 0 0 Q (Zp ss) 4 [(0, .ref (a 0)), (1, .int (iZ x1)), (2, .int (iZ x2))] [] := by
    intro nn
    induction nn with
    | zero => exact fun i x1 x2 hm => absurd hm (Nat.not_lt_zero _)
    | succ nn ih =>
      intro i x1 x2 hm hi e2 e3
      refine z_iload_n mx mb dX5_lyingOnes_4 rfl 2 rfl ?_
      refine z_aload_n mx mb dX5_lyingOnes_5 rfl 0 rfl ?_
      refine z_get (C := RX5) (T := TX5) (N := 8) mx mb mts (in_X5_lyingOnes_X5) mo hK (zgp hP) 0 wM_0 rfl 0 (by decide) (mts _ (List.mem_of_getElem? (i := 1) rfl)) (fun _ h9 => h9) rfl dX5_lyingOnes_6 ?_
      refine z_iconst mx mb dX5_lyingOnes_9 ?_
      refine z_iald mx mb hK (zgp hP) 1 0 wM_1 rfl (by decide) (by omega) dX5_lyingOnes_10 ?_
      refine z_icmp_ge (tgt := 38) mx mb (by omega) (by omega) dX5_lyingOnes_11 (by decide) (fun c11 => ?_) (fun c11 => ?_)
      · skip
        have hi2 : i = (f 2).toNat := by omega
        refine z_iload_n mx mb dX5_lyingOnes_38 rfl 1 rfl ?_
        rw [hQ]
        exact z_retP mx mb mr mlk (by rw [e2, hi2]) dX5_lyingOnes_39
      · skip
        have k1 := (w6 x2 (by omega) (by omega)).2
        refine z_iload_n mx mb dX5_lyingOnes_14 rfl 1 rfl ?_
        refine z_aload_n mx mb dX5_lyingOnes_15 rfl 0 rfl ?_
        refine z_iload_n mx mb dX5_lyingOnes_16 rfl 2 rfl ?_
        refine z_iconst mx mb dX5_lyingOnes_17 ?_
        refine z_callP (As := [.int (iZ x2), .int (iZ 4)]) (rest := [.int (iZ x1)]) ⟨mx, mb, mml, mo, mts⟩ hK (zgp hP) (c_X5_of l D y a f sv ai tx sm ln th hh x2 4 (by omega)) (cwV 2 mts gX5_lyingOnes_X5_of rfl rfl rfl (by decide +kernel) ⟨Nat.le_of_ble_eq_true rfl, Nat.le_of_ble_eq_true rfl⟩) (fun _ h => h) 0 wM_0 rfl rfl rfl rfl (Nat.le_of_ble_eq_true rfl) ⟨Nat.zero_le _, Nat.zero_le _⟩ dX5_lyingOnes_18 ?_
        refine z_iconst mx mb dX5_lyingOnes_21 ?_
        refine z_icmp_ne (tgt := 29) mx mb (by omega) (by omega) dX5_lyingOnes_22 (by decide) (fun c22 => ?_) (fun c22 => ?_)
        · skip
          refine z_iconst mx mb dX5_lyingOnes_29 ?_
          refine z_iadd mx mb dX5_lyingOnes_30 ?_
          refine z_istore_n mx mb dX5_lyingOnes_31 rfl (by decide) [(1, .int (iZ (x1 + 0))), (0, .ref (a 0)), (2, .int (iZ x2))] rfl ?_
          refine z_iinc mx mb dX5_lyingOnes_32 2 rfl (by decide) [(2, .int (iZ (x2 + 1))), (1, .int (iZ (x1 + 0))), (0, .ref (a 0))] rfl ?_
          refine z_goto (tgt := 4) mx mb dX5_lyingOnes_35 (by decide) ?_
          refine z_lv [2, 1, 0] rfl ?_
          exact ih (i + 1) _ _ (by omega) (by omega) (by first | (rw [lyn, ← e3, if_pos c22, e2]; done) | (rw [lyn, ← e3, if_neg c22, e2]; done)) (by omega)
        · skip
          refine z_iconst mx mb dX5_lyingOnes_25 ?_
          refine z_goto (tgt := 30) mx mb dX5_lyingOnes_26 (by decide) ?_
          refine z_iadd mx mb dX5_lyingOnes_30 ?_
          refine z_istore_n mx mb dX5_lyingOnes_31 rfl (by decide) [(1, .int (iZ (x1 + 1))), (0, .ref (a 0)), (2, .int (iZ x2))] rfl ?_
          refine z_iinc mx mb dX5_lyingOnes_32 2 rfl (by decide) [(2, .int (iZ (x2 + 1))), (1, .int (iZ (x1 + 1))), (0, .ref (a 0))] rfl ?_
          refine z_goto (tgt := 4) mx mb dX5_lyingOnes_35 (by decide) ?_
          refine z_lv [2, 1, 0] rfl ?_
          exact ih (i + 1) _ _ (by omega) (by omega) (by first | (rw [lyn, ← e3, if_pos c22, e2]; done) | (rw [lyn, ← e3, if_neg c22, e2]; done)) (by omega)
  refine z_lv [2, 1, 0] rfl ?_
  exact lp4 _ 0 0 0 (Nat.lt_succ_self _) (by omega) (by rfl) (by rfl)

theorem in_X5_highest_X5 : ∀ w ∈ wsX50, w ∈ wsX5_highest := by decide +kernel
set_option maxRecDepth 100000 in
set_option maxHeartbeats 4000000 in
theorem c_X5_highest (l : Launch) (D : va_G) (y : Nat → ClassId) (a : Nat → Nat) (f sv ai tx : Int → Int) (sm ln th hh : Int) (hW : Wf f) : Met l yX5_highest wsX5_highest ({ frames := 0, cells := 0, slots := 0, locals := 0 } : Room) (zPp D vwCl (zT y) (wM y a f sv ai tx sm ln th hh) [.ref (a 0)]) (vp_Si (fun r => r = iZ (hgh f (f 0).toNat))) 0 0 (fun _ => False) := by
  refine z_headP (cc := cX5_highest) (maxL := 3) (ret := (some .int)) [(0, .ref (a 0))] rfl (Nat.le_of_ble_eq_true rfl) (by decide +kernel) rfl ?_
  intro pp ee ss mm below meth cd mx mb mr mml mo mts mlk hK hP
  generalize ([.ref (a 0)] : List Value).toArray = args at mts ⊢
  obtain ⟨Q, hQ⟩ : ∃ Q, Q = MQ below (vp_Si (fun r => r = iZ (hgh f (f 0).toNat))) args ss 0 0 (fun _ => False) := ⟨_, rfl⟩
  rw [← hQ]
  obtain ⟨w0, w1, w2, w3, w4, w5, w6⟩ := id hW
  refine z_iconst mx mb dX5_highest_0 ?_
  refine z_istore_n mx mb dX5_highest_1 rfl (by decide) [(1, .int (iZ 0)), (0, .ref (a 0))] rfl ?_
  refine z_iconst mx mb dX5_highest_2 ?_
  refine z_istore_n mx mb dX5_highest_3 rfl (by decide) [(2, .int (iZ 0)), (1, .int (iZ 0)), (0, .ref (a 0))] rfl ?_
  have lp4 : ∀ (nn : Nat) (i : Nat) (x1 x2 : Int), (f 0).toNat - i < nn → ((i : Int) ≤ f 0) → (0 ≤ x1 ∧ x1 ≤ 9) → (x1 = hgh f i) → (x2 = (i : Int)) → Gz pp l ee ({ frames := 0, cells := 0, slots := 0, locals := 0 } : Room) ss mm args below meth cd 3 0 0 Q (Zp ss) 4 [(0, .ref (a 0)), (1, .int (iZ x1)), (2, .int (iZ x2))] [] := by
    intro nn
    induction nn with
    | zero => exact fun i x1 x2 hm => absurd hm (Nat.not_lt_zero _)
    | succ nn ih =>
      intro i x1 x2 hm hi hr e2 e3
      refine z_iload_n mx mb dX5_highest_4 rfl 2 rfl ?_
      refine z_aload_n mx mb dX5_highest_5 rfl 0 rfl ?_
      refine z_get (C := RX5) (T := TX5) (N := 8) mx mb mts (in_X5_highest_X5) mo hK (zgp hP) 0 wM_0 rfl 0 (by decide) (mts _ (List.mem_of_getElem? (i := 1) rfl)) (fun _ h9 => h9) rfl dX5_highest_6 ?_
      refine z_iconst mx mb dX5_highest_9 ?_
      refine z_iald mx mb hK (zgp hP) 1 0 wM_1 rfl (by decide) (by omega) dX5_highest_10 ?_
      refine z_icmp_ge (tgt := 47) mx mb (by omega) (by omega) dX5_highest_11 (by decide) (fun c11 => ?_) (fun c11 => ?_)
      · skip
        have hi2 : i = (f 0).toNat := by omega
        refine z_iload_n mx mb dX5_highest_47 rfl 1 rfl ?_
        rw [hQ]
        exact z_retP mx mb mr mlk (by rw [e2, hi2]) dX5_highest_48
      · skip
        have k1 := w5 x2 (by omega) (by omega)
        refine z_aload_n mx mb dX5_highest_14 rfl 0 rfl ?_
        refine z_get (C := RX5) (T := TX5) (N := 8) mx mb mts (in_X5_highest_X5) mo hK (zgp hP) 0 wM_0 rfl 0 (by decide) (mts _ (List.mem_of_getElem? (i := 1) rfl)) (fun _ h9 => h9) rfl dX5_highest_15 ?_
        refine z_bipush mx mb dX5_highest_18 (by decide +kernel) ?_
        refine z_iload_n mx mb dX5_highest_20 rfl 2 rfl ?_
        refine z_iadd mx mb dX5_highest_21 ?_
        refine z_iald mx mb hK (zgp hP) 1 0 wM_1 rfl (by decide) (by omega) dX5_highest_22 ?_
        refine z_iload_n mx mb dX5_highest_23 rfl 1 rfl ?_
        refine z_icmp_le (tgt := 39) mx mb (by omega) (by omega) dX5_highest_24 (by decide) (fun c24 => ?_) (fun c24 => ?_)
        · skip
          refine z_iload_n mx mb dX5_highest_39 rfl 1 rfl ?_
          refine z_istore_n mx mb dX5_highest_40 rfl (by decide) [(1, .int (iZ x1)), (0, .ref (a 0)), (2, .int (iZ x2))] rfl ?_
          refine z_iinc mx mb dX5_highest_41 2 rfl (by decide) [(2, .int (iZ (x2 + 1))), (1, .int (iZ x1)), (0, .ref (a 0))] rfl ?_
          refine z_goto (tgt := 4) mx mb dX5_highest_44 (by decide) ?_
          refine z_lv [2, 1, 0] rfl ?_
          exact ih (i + 1) _ _ (by omega) (by omega) (by omega) (by first | (rw [hgh, ← e3, ← e2, if_pos c24]; done) | (rw [hgh, ← e3, ← e2, if_neg (by omega)]; done)) (by omega)
        · skip
          refine z_aload_n mx mb dX5_highest_27 rfl 0 rfl ?_
          refine z_get (C := RX5) (T := TX5) (N := 8) mx mb mts (in_X5_highest_X5) mo hK (zgp hP) 0 wM_0 rfl 0 (by decide) (mts _ (List.mem_of_getElem? (i := 1) rfl)) (fun _ h9 => h9) rfl dX5_highest_28 ?_
          refine z_bipush mx mb dX5_highest_31 (by decide +kernel) ?_
          refine z_iload_n mx mb dX5_highest_33 rfl 2 rfl ?_
          refine z_iadd mx mb dX5_highest_34 ?_
          refine z_iald mx mb hK (zgp hP) 1 0 wM_1 rfl (by decide) (by omega) dX5_highest_35 ?_
          refine z_goto (tgt := 40) mx mb dX5_highest_36 (by decide) ?_
          refine z_istore_n mx mb dX5_highest_40 rfl (by decide) [(1, .int (iZ (f (11 + x2)))), (0, .ref (a 0)), (2, .int (iZ x2))] rfl ?_
          refine z_iinc mx mb dX5_highest_41 2 rfl (by decide) [(2, .int (iZ (x2 + 1))), (1, .int (iZ (f (11 + x2)))), (0, .ref (a 0))] rfl ?_
          refine z_goto (tgt := 4) mx mb dX5_highest_44 (by decide) ?_
          refine z_lv [2, 1, 0] rfl ?_
          exact ih (i + 1) _ _ (by omega) (by omega) (by omega) (by first | (rw [hgh, ← e3, ← e2, if_pos c24]; done) | (rw [hgh, ← e3, ← e2, if_neg (by omega)]; done)) (by omega)
  refine z_lv [2, 1, 0] rfl ?_
  exact lp4 _ 0 0 0 (Nat.lt_succ_self _) (by omega) (by omega) (by rfl) (by rfl)

theorem in_X5_valueOf_X5 : ∀ w ∈ wsX50, w ∈ wsX5_valueOf := by decide +kernel
set_option maxRecDepth 100000 in
set_option maxHeartbeats 4000000 in
theorem c_X5_valueOf (l : Launch) (D : va_G) (y : Nat → ClassId) (a : Nat → Nat) (f sv ai tx : Int → Int) (sm ln th hh : Int) (w : Int) (hw : 0 ≤ w ∧ w ≤ 11) (hW : Wf f) : Met l yX5_valueOf wsX5_valueOf ({ frames := 2, cells := 0, slots := 0, locals := 44 } : Room) (zPp D vwCl (zT y) (wM y a f sv ai tx sm ln th hh) [.ref (a 0), .int (iZ w)]) (vp_Si (fun r => r = iZ (valueOf f w))) 0 0 (fun _ => False) := by
  refine z_headP (cc := cX5_valueOf) (maxL := 2) (ret := (some .int)) [(0, .ref (a 0)), (1, .int (iZ w))] rfl (Nat.le_of_ble_eq_true rfl) (by decide +kernel) rfl ?_
  intro pp ee ss mm below meth cd mx mb mr mml mo mts mlk hK hP
  generalize ([.ref (a 0), .int (iZ w)] : List Value).toArray = args at mts ⊢
  obtain ⟨Q, hQ⟩ : ∃ Q, Q = MQ below (vp_Si (fun r => r = iZ (valueOf f w))) args ss 0 0 (fun _ => False) := ⟨_, rfl⟩
  rw [← hQ]
  refine z_iload_n mx mb dX5_valueOf_0 rfl 1 rfl ?_
  refine z_bipush mx mb dX5_valueOf_1 (by decide +kernel) ?_
  refine z_icmp_ge (tgt := 15) mx mb (by omega) (by omega) dX5_valueOf_3 (by decide) (fun c3 => ?_) (fun c3 => ?_)
  · skip
    refine z_iload_n mx mb dX5_valueOf_15 rfl 1 rfl ?_
    refine z_bipush mx mb dX5_valueOf_16 (by decide +kernel) ?_
    refine z_icmp_ne (tgt := 28) mx mb (by omega) (by omega) dX5_valueOf_18 (by decide) (fun c18 => ?_) (fun c18 => ?_)
    · skip
      refine z_aload_n mx mb dX5_valueOf_28 rfl 0 rfl ?_
      refine z_callP (As := []) (rest := []) ⟨mx, mb, mml, mo, mts⟩ hK (zgp hP) (c_X5_highest l D y a f sv ai tx sm ln th hh  (by assumption)) (cwV 0 mts gX5_valueOf_X5_highest rfl rfl rfl (by decide +kernel) ⟨Nat.le_of_ble_eq_true rfl, Nat.le_of_ble_eq_true rfl⟩) (fun _ h => h) 0 wM_0 rfl rfl rfl rfl (Nat.le_of_ble_eq_true rfl) ⟨Nat.zero_le _, Nat.zero_le _⟩ dX5_valueOf_29 ?_
      rw [hQ]
      exact z_retP mx mb mr mlk (by unfold valueOf; first | (rw [if_pos (by omega)]; done) | (rw [if_neg (by omega), if_pos (by omega)]; done) | (rw [if_neg (by omega), if_neg (by omega)]; done)) dX5_valueOf_32
    · skip
      refine z_aload_n mx mb dX5_valueOf_21 rfl 0 rfl ?_
      refine z_callP (As := []) (rest := []) ⟨mx, mb, mml, mo, mts⟩ hK (zgp hP) (c_X5_lyingOnes l D y a f sv ai tx sm ln th hh  (by assumption)) (cwV 0 mts gX5_valueOf_X5_lyingOnes rfl rfl rfl (by decide +kernel) ⟨Nat.le_of_ble_eq_true rfl, Nat.le_of_ble_eq_true rfl⟩) (fun _ h => h) 0 wM_0 rfl rfl rfl rfl (Nat.le_of_ble_eq_true rfl) ⟨Nat.zero_le _, Nat.zero_le _⟩ dX5_valueOf_22 ?_
      refine z_goto (tgt := 32) mx mb dX5_valueOf_25 (by decide) ?_
      rw [hQ]
      exact z_retP mx mb mr mlk (by unfold valueOf; first | (rw [if_pos (by omega)]; done) | (rw [if_neg (by omega), if_pos (by omega)]; done) | (rw [if_neg (by omega), if_neg (by omega)]; done)) dX5_valueOf_32
  · skip
    refine z_aload_n mx mb dX5_valueOf_6 rfl 0 rfl ?_
    refine z_get (C := RX5) (T := TX5) (N := 8) mx mb mts (in_X5_valueOf_X5) mo hK (zgp hP) 0 wM_0 rfl 0 (by decide) (mts _ (List.mem_of_getElem? (i := 1) rfl)) (fun _ h9 => h9) rfl dX5_valueOf_7 ?_
    refine z_iload_n mx mb dX5_valueOf_10 rfl 1 rfl ?_
    refine z_iald mx mb hK (zgp hP) 1 0 wM_1 rfl (by decide) (by omega) dX5_valueOf_11 ?_
    refine z_goto (tgt := 32) mx mb dX5_valueOf_12 (by decide) ?_
    rw [hQ]
    exact z_retP mx mb mr mlk (by unfold valueOf; first | (rw [if_pos (by omega)]; done) | (rw [if_neg (by omega), if_pos (by omega)]; done) | (rw [if_neg (by omega), if_neg (by omega)]; done)) dX5_valueOf_32

set_option maxRecDepth 100000 in
set_option maxHeartbeats 4000000 in
theorem c_X5_whyOf (l : Launch) (D : va_G) (y : Nat → ClassId) (a : Nat → Nat) (f sv ai tx : Int → Int) (sm ln th hh : Int) (t : Int) (ht : 0 ≤ t ∧ t < 4) (hs : 0 ≤ f (79 + 8 * t + 5) ∧ f (79 + 8 * t + 5) ≤ 250000) (hW : Wf f) (hN : Ns f) : Met l yX5_whyOf wsX5_whyOf ({ frames := 4, cells := 0, slots := 0, locals := 92 } : Room) (zPp D vwCl (zT y) (wM y a f sv ai tx sm ln th hh) [.ref (a 0), .int (iZ t)]) (vp_Si (fun r => r = iZ (whyOf f t))) 0 0 (fun _ => False) := by
  refine z_headP (cc := cX5_whyOf) (maxL := 3) (ret := (some .int)) [(0, .ref (a 0)), (1, .int (iZ t))] rfl (Nat.le_of_ble_eq_true rfl) (by decide +kernel) rfl ?_
  intro pp ee ss mm below meth cd mx mb mr mml mo mts mlk hK hP
  generalize ([.ref (a 0), .int (iZ t)] : List Value).toArray = args at mts ⊢
  obtain ⟨Q, hQ⟩ : ∃ Q, Q = MQ below (vp_Si (fun r => r = iZ (whyOf f t))) args ss 0 0 (fun _ => False) := ⟨_, rfl⟩
  rw [← hQ]
  obtain ⟨w0, w1, w2, w3, w4, w5, w6⟩ := id hW
  have k0 := (w6 t (by omega) (by omega)).2
  refine z_aload_n mx mb dX5_whyOf_0 rfl 0 rfl ?_
  refine z_iload_n mx mb dX5_whyOf_1 rfl 1 rfl ?_
  refine z_iconst mx mb dX5_whyOf_2 ?_
  refine z_callP (As := [.int (iZ t), .int (iZ 4)]) (rest := []) ⟨mx, mb, mml, mo, mts⟩ hK (zgp hP) (c_X5_of l D y a f sv ai tx sm ln th hh t 4 (by omega)) (cwV 2 mts gX5_whyOf_X5_of rfl rfl rfl (by decide +kernel) ⟨Nat.le_of_ble_eq_true rfl, Nat.le_of_ble_eq_true rfl⟩) (fun _ h => h) 0 wM_0 rfl rfl rfl rfl (Nat.le_of_ble_eq_true rfl) ⟨Nat.zero_le _, Nat.zero_le _⟩ dX5_whyOf_3 ?_
  refine z_istore_n mx mb dX5_whyOf_6 rfl (by decide) [(2, .int (iZ (f (79 + 8 * t + 4)))), (0, .ref (a 0)), (1, .int (iZ t))] rfl ?_
  refine z_iload_n mx mb dX5_whyOf_7 rfl 0 rfl ?_
  refine z_if_ne (tgt := 15) mx mb (by omega) dX5_whyOf_8 (by decide) (fun c8 => ?_) (fun c8 => ?_)
  · skip
    refine z_iload_n mx mb dX5_whyOf_15 rfl 0 rfl ?_
    refine z_iconst mx mb dX5_whyOf_16 ?_
    refine z_icmp_ne (tgt := 24) mx mb (by omega) (by omega) dX5_whyOf_17 (by decide) (fun c17 => ?_) (fun c17 => ?_)
    · skip
      refine z_aload_n mx mb dX5_whyOf_24 rfl 1 rfl ?_
      refine z_iload_n mx mb dX5_whyOf_25 rfl 2 rfl ?_
      refine z_aload_n mx mb dX5_whyOf_26 rfl 1 rfl ?_
      refine z_iload_n mx mb dX5_whyOf_27 rfl 2 rfl ?_
      refine z_iconst mx mb dX5_whyOf_28 ?_
      refine z_callP (As := [.int (iZ t), .int (iZ 5)]) (rest := [.int (iZ t), .ref (a 0)]) ⟨mx, mb, mml, mo, mts⟩ hK (zgp hP) (c_X5_of l D y a f sv ai tx sm ln th hh t 5 (by omega)) (cwV 2 mts gX5_whyOf_X5_of rfl rfl rfl (by decide +kernel) ⟨Nat.le_of_ble_eq_true rfl, Nat.le_of_ble_eq_true rfl⟩) (fun _ h => h) 0 wM_0 rfl rfl rfl rfl (Nat.le_of_ble_eq_true rfl) ⟨Nat.zero_le _, Nat.zero_le _⟩ dX5_whyOf_29 ?_
      refine z_iconst mx mb dX5_whyOf_32 ?_
      refine z_iadd mx mb dX5_whyOf_33 ?_
      refine z_callP (As := [.int (iZ t), .int (iZ ((f (79 + 8 * t + 5)) + 1))]) (rest := []) ⟨mx, mb, mml, mo, mts⟩ hK (zgp hP) (c_X5_holds l D y a f sv ai tx sm ln th hh t ((f (79 + 8 * t + 5)) + 1) (by omega) (by omega) (by assumption) (by assumption)) (cwV 2 mts gX5_whyOf_X5_holds rfl rfl rfl (by decide +kernel) ⟨Nat.le_of_ble_eq_true rfl, Nat.le_of_ble_eq_true rfl⟩) (fun _ h => h) 0 wM_0 rfl rfl rfl rfl (Nat.le_of_ble_eq_true rfl) ⟨Nat.zero_le _, Nat.zero_le _⟩ dX5_whyOf_34 ?_
      rw [hQ]
      exact z_retP mx mb mr mlk (by unfold whyOf; first | (rw [if_pos (by omega)]; done) | (rw [if_neg (by omega), if_pos (by omega)]; done) | (rw [if_neg (by omega), if_neg (by omega)]; done)) dX5_whyOf_37
    · skip
      refine z_iconst mx mb dX5_whyOf_20 ?_
      refine z_goto (tgt := 37) mx mb dX5_whyOf_21 (by decide) ?_
      rw [hQ]
      exact z_retP mx mb mr mlk (by unfold whyOf; first | (rw [if_pos (by omega)]; done) | (rw [if_neg (by omega), if_pos (by omega)]; done) | (rw [if_neg (by omega), if_neg (by omega)]; done)) dX5_whyOf_37
  · skip
    refine z_iconst mx mb dX5_whyOf_11 ?_
    refine z_goto (tgt := 37) mx mb dX5_whyOf_12 (by decide) ?_
    rw [hQ]
    exact z_retP mx mb mr mlk (by unfold whyOf; first | (rw [if_pos (by omega)]; done) | (rw [if_neg (by omega), if_pos (by omega)]; done) | (rw [if_neg (by omega), if_neg (by omega)]; done)) dX5_whyOf_37
