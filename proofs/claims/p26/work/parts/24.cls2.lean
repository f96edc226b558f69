theorem in_X0_isFree_X0 : ∀ w ∈ wsX00, w ∈ wsX0_isFree := by decide +kernel
theorem in_X0_isFree_X3 : ∀ w ∈ wsX30, w ∈ wsX0_isFree := by decide +kernel
set_option maxRecDepth 100000 in
set_option maxHeartbeats 4000000 in
theorem c_X0_isFree (l : Launch) (D : va_G) (y : Nat → ClassId) (a : Nat → Nat) (R : Nat → Int → Int) (f : Int → Int) (b : Int) (hb : 0 ≤ b ∧ b < f 1) (hA : Ap f) (hR : Rel f R) (hW : Wf f) : Met l yX0_isFree wsX0_isFree ({ frames := 1, cells := 0, slots := 0, locals := 22 } : Room) (zPp D vwCl (zT y) (wR y a R) [.ref (a 0), .int (iZ b)]) (vp_Si (fun r => r = iZ (b2z (isFree f b = true)))) 0 0 (fun _ => False) := by
  refine z_headP (cc := cX0_isFree) (maxL := 3) (ret := (some .boolean)) [(0, .ref (a 0)), (1, .int (iZ b))] rfl (Nat.le_of_ble_eq_true rfl) (by decide +kernel) rfl ?_
  intro pp ee ss mm below meth cd mx mb mr mml mo mts mlk hK hP
  generalize ([.ref (a 0), .int (iZ b)] : List Value).toArray = args at mts ⊢
  obtain ⟨Q, hQ⟩ : ∃ Q, Q = MQ below (vp_Si (fun r => r = iZ (b2z (isFree f b = true)))) args ss 0 0 (fun _ => False) := ⟨_, rfl⟩
  rw [← hQ]
  obtain ⟨⟨r0, r1, r2, r3, r4⟩, rc, rb, ⟨s0, s1, s2, s3⟩, rt, rl⟩ := id hR
  obtain ⟨w0, w1, w2, w3, w4, w5, w6⟩ := id hW
  have a1 := ahead_rng hW hb
  obtain ⟨b0, b1, b2, b3⟩ := brakeOf_spec hW a1
  have tr := tro_rng f (brakeOf f (ahead f b)) (f 2).toNat
  have tn := trainIn_rng hW b
  refine z_aload_n mx mb dX0_isFree_0 rfl 0 rfl ?_
  refine z_aload_n mx mb dX0_isFree_1 rfl 0 rfl ?_
  refine z_get (C := RX0) (T := TX0) (N := 9) mx mb mts (in_X0_isFree_X0) mo hK (zgp hP) 0 wR_0 rfl 0 (by decide) (mts _ (List.mem_of_getElem? (i := 1) rfl)) (fun _ h9 => h9) rfl dX0_isFree_2 ?_
  refine z_iload_n mx mb dX0_isFree_5 rfl 1 rfl ?_
  refine z_callP (As := [.int (iZ b)]) (rest := [.ref (a 0)]) ⟨mx, mb, mml, mo, mts⟩ hK (zgp hP) (c_X1_brakeBefore l D y a R f b (by omega) (by assumption) (by assumption)) (cwV 1 mts gX0_isFree_X1_brakeBefore rfl rfl rfl (by decide +kernel) ⟨Nat.le_of_ble_eq_true rfl, Nat.le_of_ble_eq_true rfl⟩) (fun _ h => h) 1 wR_1 rfl rfl rfl rfl (Nat.le_of_ble_eq_true rfl) ⟨Nat.zero_le _, Nat.zero_le _⟩ dX0_isFree_6 ?_
  refine z_callP (As := [.int (iZ (brakeOf f (ahead f b)))]) (rest := []) ⟨mx, mb, mml, mo, mts⟩ hK (zgp hP) (c_X0_trainOnCell l D y a R f (brakeOf f (ahead f b)) (by omega) (by assumption) (by assumption) (by assumption)) (cwV 1 mts gX0_isFree_X0_trainOnCell rfl rfl rfl (by decide +kernel) ⟨Nat.le_of_ble_eq_true rfl, Nat.le_of_ble_eq_true rfl⟩) (fun _ h => h) 0 wR_0 rfl rfl rfl rfl (Nat.le_of_ble_eq_true rfl) ⟨Nat.zero_le _, Nat.zero_le _⟩ dX0_isFree_9 ?_
  refine z_istore_n mx mb dX0_isFree_12 rfl (by decide) [(2, .int (iZ (tro f (brakeOf f (ahead f b)) (f 2).toNat))), (0, .ref (a 0)), (1, .int (iZ b))] rfl ?_
  refine z_iload_n mx mb dX0_isFree_13 rfl 0 rfl ?_
  refine z_iconst mx mb dX0_isFree_14 ?_
  refine z_icmp_eq (tgt := 32) mx mb (by omega) (by omega) dX0_isFree_15 (by decide) (fun c15 => ?_) (fun c15 => ?_)
  · skip
    refine z_aload_n mx mb dX0_isFree_32 rfl 1 rfl ?_
    refine z_iload_n mx mb dX0_isFree_33 rfl 2 rfl ?_
    refine z_callP (As := [.int (iZ b)]) (rest := []) ⟨mx, mb, mml, mo, mts⟩ hK (zgp hP) (c_X0_trainInBlock l D y a R f b (by omega) (by assumption) (by assumption)) (cwV 1 mts gX0_isFree_X0_trainInBlock rfl rfl rfl (by decide +kernel) ⟨Nat.le_of_ble_eq_true rfl, Nat.le_of_ble_eq_true rfl⟩) (fun _ h => h) 0 wR_0 rfl rfl rfl rfl (Nat.le_of_ble_eq_true rfl) ⟨Nat.zero_le _, Nat.zero_le _⟩ dX0_isFree_34 ?_
    refine z_iconst mx mb dX0_isFree_37 ?_
    refine z_icmp_ne (tgt := 45) mx mb (by omega) (by omega) dX0_isFree_38 (by decide) (fun c38 => ?_) (fun c38 => ?_)
    · skip
      refine z_iconst mx mb dX0_isFree_45 ?_
      rw [hQ]
      exact z_retB mx mb mr mlk (by exact (b2z_f (fun q => c38 ((isFree_1 c15).mp q))).symm) dX0_isFree_46
    · skip
      refine z_iconst mx mb dX0_isFree_41 ?_
      refine z_goto (tgt := 46) mx mb dX0_isFree_42 (by decide) ?_
      rw [hQ]
      exact z_retB mx mb mr mlk (by exact (b2z_t ((isFree_1 c15).mpr c38)).symm) dX0_isFree_46
  · skip
    obtain ⟨i, i1, i2, i3⟩ := tro_hit _ c15
    have e4 := rt i (by omega) 4 (by omega) (by omega)
    have q4 := (w6 (i : Int) (by omega) (by omega)).2
    refine z_aload_n mx mb dX0_isFree_18 rfl 1 rfl ?_
    refine z_get (C := RX0) (T := TX0) (N := 9) mx mb mts (in_X0_isFree_X0) mo hK (zgp hP) 0 wR_0 rfl 1 (by decide) (mts _ (List.mem_of_getElem? (i := 2) rfl)) (fun _ h9 => h9) rfl dX0_isFree_19 ?_
    refine z_iload_n mx mb dX0_isFree_22 rfl 0 rfl ?_
    refine z_top (show tro f (brakeOf f (ahead f b)) (f 2).toNat = (i : Int) from by exact i2) ?_
    refine z_aald (i := i) mx mb hK (zgp hP) 6 1 wR_6 rfl (by decide) (by omega) dX0_isFree_23 ?_
    refine z_get (C := RX3) (T := TX3) (N := 8) mx mb mts (in_X0_isFree_X3) mo hK (zgp hP) (8 + i) (wR_t (by omega)) rfl 4 (by decide) (mts _ (List.mem_of_getElem? (i := 3) rfl)) (fun _ h9 => h9) rfl dX0_isFree_24 ?_
    refine z_if_ne (tgt := 32) mx mb (by omega) dX0_isFree_27 (by decide) (fun c27 => ?_) (fun c27 => ?_)
    · skip
      refine z_aload_n mx mb dX0_isFree_32 rfl 1 rfl ?_
      refine z_iload_n mx mb dX0_isFree_33 rfl 2 rfl ?_
      refine z_callP (As := [.int (iZ b)]) (rest := []) ⟨mx, mb, mml, mo, mts⟩ hK (zgp hP) (c_X0_trainInBlock l D y a R f b (by omega) (by assumption) (by assumption)) (cwV 1 mts gX0_isFree_X0_trainInBlock rfl rfl rfl (by decide +kernel) ⟨Nat.le_of_ble_eq_true rfl, Nat.le_of_ble_eq_true rfl⟩) (fun _ h => h) 0 wR_0 rfl rfl rfl rfl (Nat.le_of_ble_eq_true rfl) ⟨Nat.zero_le _, Nat.zero_le _⟩ dX0_isFree_34 ?_
      refine z_iconst mx mb dX0_isFree_37 ?_
      refine z_icmp_ne (tgt := 45) mx mb (by omega) (by omega) dX0_isFree_38 (by decide) (fun c38 => ?_) (fun c38 => ?_)
      · skip
        refine z_iconst mx mb dX0_isFree_45 ?_
        rw [hQ]
        exact z_retB mx mb mr mlk (by exact (b2z_f (fun q => c38 ((isFree_3 hW hA i1 i3 (by omega)).mp q))).symm) dX0_isFree_46
      · skip
        refine z_iconst mx mb dX0_isFree_41 ?_
        refine z_goto (tgt := 46) mx mb dX0_isFree_42 (by decide) ?_
        rw [hQ]
        exact z_retB mx mb mr mlk (by exact (b2z_t ((isFree_3 hW hA i1 i3 (by omega)).mpr c38)).symm) dX0_isFree_46
    · skip
      refine z_iconst mx mb dX0_isFree_30 ?_
      rw [hQ]
      exact z_retB mx mb mr mlk (by exact (b2z_f (isFree_2 i1 i3 (by omega))).symm) dX0_isFree_31

theorem in_X0_lyingTrains_X0 : ∀ w ∈ wsX00, w ∈ wsX0_lyingTrains := by decide +kernel
theorem in_X0_lyingTrains_X3 : ∀ w ∈ wsX30, w ∈ wsX0_lyingTrains := by decide +kernel
set_option maxRecDepth 100000 in
set_option maxHeartbeats 4000000 in
theorem c_X0_lyingTrains (l : Launch) (D : va_G) (y : Nat → ClassId) (a : Nat → Nat) (R : Nat → Int → Int) (f : Int → Int) (hR : Rel f R) (hW : Wf f) : Met l yX0_lyingTrains wsX0_lyingTrains ({ frames := 0, cells := 0, slots := 0, locals := 0 } : Room) (zPp D vwCl (zT y) (wR y a R) [.ref (a 0)]) (vp_Si (fun r => r = iZ (lyn f (f 2).toNat))) 0 0 (fun _ => False) := by
  refine z_headP (cc := cX0_lyingTrains) (maxL := 3) (ret := (some .int)) [(0, .ref (a 0))] rfl (Nat.le_of_ble_eq_true rfl) (by decide +kernel) rfl ?_
  intro pp ee ss mm below meth cd mx mb mr mml mo mts mlk hK hP
  generalize ([.ref (a 0)] : List Value).toArray = args at mts ⊢
  obtain ⟨Q, hQ⟩ : ∃ Q, Q = MQ below (vp_Si (fun r => r = iZ (lyn f (f 2).toNat))) args ss 0 0 (fun _ => False) := ⟨_, rfl⟩
  rw [← hQ]
  obtain ⟨⟨r0, r1, r2, r3, r4⟩, rc, rb, ⟨s0, s1, s2, s3⟩, rt, rl⟩ := id hR
  obtain ⟨w0, w1, w2, w3, w4, w5, w6⟩ := id hW
  refine z_iconst mx mb dX0_lyingTrains_0 ?_
  refine z_istore_n mx mb dX0_lyingTrains_1 rfl (by decide) [(1, .int (iZ 0)), (0, .ref (a 0))] rfl ?_
  refine z_iconst mx mb dX0_lyingTrains_2 ?_
  refine z_istore_n mx mb dX0_lyingTrains_3 rfl (by decide) [(2, .int (iZ 0)), (1, .int (iZ 0)), (0, .ref (a 0))] rfl ?_
  have lp4 : ∀ (nn : Nat) (i : Nat) (x1 x2 : Int), (f 2).toNat - i < nn → ((i : Int) ≤ f 2) → (x1 = lyn f i) → (x2 = (i : Int)) → Gz pp l ee ({ frames := 0, cells := 0, slots := 0, locals := 0 } : Room) ss mm args below meth cd 3 0 0 Q (Zp ss) 4 [(0, .ref (a 0)), (1, .int (iZ x1)), (2, .int (iZ x2))] [] := by
    intro nn
    induction nn with
    | zero => exact fun i x1 x2 hm => absurd hm (Nat.not_lt_zero _)
    | succ nn ih =>
      intro i x1 x2 hm hi e2 e3
      refine z_iload_n mx mb dX0_lyingTrains_4 rfl 2 rfl ?_
      refine z_aload_n mx mb dX0_lyingTrains_5 rfl 0 rfl ?_
      refine z_get (C := RX0) (T := TX0) (N := 9) mx mb mts (in_X0_lyingTrains_X0) mo hK (zgp hP) 0 wR_0 rfl 6 (by decide) (mts _ (List.mem_of_getElem? (i := 1) rfl)) (fun _ h9 => h9) rfl dX0_lyingTrains_6 ?_
      refine z_icmp_ge (tgt := 34) mx mb (by omega) (by omega) dX0_lyingTrains_9 (by decide) (fun c9 => ?_) (fun c9 => ?_)
      · skip
        have hi2 : i = (f 2).toNat := by omega
        refine z_iload_n mx mb dX0_lyingTrains_34 rfl 1 rfl ?_
        rw [hQ]
        exact z_retP mx mb mr mlk (by rw [e2, hi2]) dX0_lyingTrains_35
      · skip
        have e4 := rt i (by omega) 4 (by omega) (by omega)
        have k1 := (w6 (i : Int) (by omega) (by omega)).2
        refine z_aload_n mx mb dX0_lyingTrains_12 rfl 0 rfl ?_
        refine z_get (C := RX0) (T := TX0) (N := 9) mx mb mts (in_X0_lyingTrains_X0) mo hK (zgp hP) 0 wR_0 rfl 1 (by decide) (mts _ (List.mem_of_getElem? (i := 2) rfl)) (fun _ h9 => h9) rfl dX0_lyingTrains_13 ?_
        refine z_iload_n mx mb dX0_lyingTrains_16 rfl 2 rfl ?_
        refine z_top (show x2 = (i : Int) from by exact e3) ?_
        refine z_aald (i := i) mx mb hK (zgp hP) 6 1 wR_6 rfl (by decide) (by omega) dX0_lyingTrains_17 ?_
        refine z_get (C := RX3) (T := TX3) (N := 8) mx mb mts (in_X0_lyingTrains_X3) mo hK (zgp hP) (8 + i) (wR_t (by omega)) rfl 4 (by decide) (mts _ (List.mem_of_getElem? (i := 3) rfl)) (fun _ h9 => h9) rfl dX0_lyingTrains_18 ?_
        refine z_iconst mx mb dX0_lyingTrains_21 ?_
        refine z_icmp_ne (tgt := 28) mx mb (by omega) (by omega) dX0_lyingTrains_22 (by decide) (fun c22 => ?_) (fun c22 => ?_)
        · skip
          refine z_iinc mx mb dX0_lyingTrains_28 2 rfl (by decide) [(2, .int (iZ (x2 + 1))), (0, .ref (a 0)), (1, .int (iZ x1))] rfl ?_
          refine z_goto (tgt := 4) mx mb dX0_lyingTrains_31 (by decide) ?_
          refine z_lv [1, 2, 0] rfl ?_
          exact ih (i + 1) _ _ (by omega) (by omega) (by rw [lyn, ← e4, if_neg c22, e2]; omega) (by omega)
        · skip
          refine z_iinc mx mb dX0_lyingTrains_25 1 rfl (by decide) [(1, .int (iZ (x1 + 1))), (0, .ref (a 0)), (2, .int (iZ x2))] rfl ?_
          refine z_iinc mx mb dX0_lyingTrains_28 2 rfl (by decide) [(2, .int (iZ (x2 + 1))), (1, .int (iZ (x1 + 1))), (0, .ref (a 0))] rfl ?_
          refine z_goto (tgt := 4) mx mb dX0_lyingTrains_31 (by decide) ?_
          refine z_lv [2, 1, 0] rfl ?_
          exact ih (i + 1) _ _ (by omega) (by omega) (by rw [lyn, ← e4, if_pos c22, e2]) (by omega)
  refine z_lv [2, 1, 0] rfl ?_
  exact lp4 _ 0 0 0 (Nat.lt_succ_self _) (by omega) (by rfl) (by rfl)

theorem in_X0_logPlace_X0 : ∀ w ∈ wsX00, w ∈ wsX0_logPlace := by decide +kernel
set_option maxRecDepth 100000 in
set_option maxHeartbeats 4000000 in
theorem c_X0_logPlace (l : Launch) (D : va_G) (y : Nat → ClassId) (a : Nat → Nat) (R : Nat → Int → Int) (f : Int → Int) (i : Int) (hi : 0 ≤ i ∧ i ≤ R 0 2 - 1 ∧ R 0 2 ≤ 2000000) : Met l yX0_logPlace wsX0_logPlace ({ frames := 0, cells := 0, slots := 0, locals := 0 } : Room) (zPp D vwCl (zT y) (wR y a R) [.ref (a 0), .int (iZ i)]) (vp_Si (fun r => r = iZ ((R 0 2 - 1 - i) % 30))) 0 0 (fun _ => False) := by
  refine z_headP (cc := cX0_logPlace) (maxL := 2) (ret := (some .int)) [(0, .ref (a 0)), (1, .int (iZ i))] rfl (Nat.le_of_ble_eq_true rfl) (by decide +kernel) rfl ?_
  intro pp ee ss mm below meth cd mx mb mr mml mo mts mlk hK hP
  generalize ([.ref (a 0), .int (iZ i)] : List Value).toArray = args at mts ⊢
  obtain ⟨Q, hQ⟩ : ∃ Q, Q = MQ below (vp_Si (fun r => r = iZ ((R 0 2 - 1 - i) % 30))) args ss 0 0 (fun _ => False) := ⟨_, rfl⟩
  rw [← hQ]
  refine z_aload_n mx mb dX0_logPlace_0 rfl 0 rfl ?_
  refine z_get (C := RX0) (T := TX0) (N := 9) mx mb mts (in_X0_logPlace_X0) mo hK (zgp hP) 0 wR_0 rfl 8 (by decide) (mts _ (List.mem_of_getElem? (i := 1) rfl)) (fun _ h9 => h9) rfl dX0_logPlace_1 ?_
  refine z_iconst mx mb dX0_logPlace_4 ?_
  refine z_isub mx mb dX0_logPlace_5 ?_
  refine z_iload_n mx mb dX0_logPlace_6 rfl 1 rfl ?_
  refine z_isub mx mb dX0_logPlace_7 ?_
  refine z_bipush mx mb dX0_logPlace_8 (by decide +kernel) ?_
  refine z_irem mx mb (by omega) (by omega) dX0_logPlace_10 ?_
  rw [hQ]
  exact z_retP mx mb mr mlk (by rfl) dX0_logPlace_11

theorem in_X0_keptDispatches_X0 : ∀ w ∈ wsX00, w ∈ wsX0_keptDispatches := by decide +kernel
set_option maxRecDepth 100000 in
set_option maxHeartbeats 4000000 in
theorem c_X0_keptDispatches (l : Launch) (D : va_G) (y : Nat → ClassId) (a : Nat → Nat) (R : Nat → Int → Int) (f : Int → Int) (hG : Lg f) (hN : Ns f) (hR : Rel f R) : Met l yX0_keptDispatches wsX0_keptDispatches ({ frames := 1, cells := 0, slots := 0, locals := 13 } : Room) (zPp D vwCl (zT y) (wR y a R) [.ref (a 0)]) (vp_Si (fun r => r = iZ (f 10))) 0 0 (fun _ => False) := by
  refine z_headP (cc := cX0_keptDispatches) (maxL := 1) (ret := (some .int)) [(0, .ref (a 0))] rfl (Nat.le_of_ble_eq_true rfl) (by decide +kernel) rfl ?_
  intro pp ee ss mm below meth cd mx mb mr mml mo mts mlk hK hP
  generalize ([.ref (a 0)] : List Value).toArray = args at mts ⊢
  obtain ⟨Q, hQ⟩ : ∃ Q, Q = MQ below (vp_Si (fun r => r = iZ (f 10))) args ss 0 0 (fun _ => False) := ⟨_, rfl⟩
  rw [← hQ]
  obtain ⟨⟨r0, r1, r2, r3, r4⟩, -⟩ := id hR
  obtain ⟨g1, g2, g3⟩ := id hG
  obtain ⟨n3, n4, n5, n6, n7, n8, n9, n10⟩ := id hN
  refine z_aload_n mx mb dX0_keptDispatches_0 rfl 0 rfl ?_
  refine z_get (C := RX0) (T := TX0) (N := 9) mx mb mts (in_X0_keptDispatches_X0) mo hK (zgp hP) 0 wR_0 rfl 8 (by decide) (mts _ (List.mem_of_getElem? (i := 1) rfl)) (fun _ h9 => h9) rfl dX0_keptDispatches_1 ?_
  refine z_bipush mx mb dX0_keptDispatches_4 (by decide +kernel) ?_
  refine z_mmin (rest := []) mx mb mml mo (mts _ (List.mem_of_getElem? (i := 2) rfl)) (mts _ (List.mem_of_getElem? (i := 3) rfl)) (mts _ (List.mem_of_getElem? (i := 4) rfl)) (mts _ (List.mem_of_getElem? (i := 5) rfl)) (Nat.le_of_ble_eq_true rfl) (Nat.le_of_ble_eq_true rfl) ⟨Nat.zero_le _, Nat.zero_le _⟩ (by omega) (by omega) dX0_keptDispatches_6 ?_
  rw [hQ]
  exact z_retP mx mb mr mlk (by rw [g1, r4]; split <;> split <;> omega) dX0_keptDispatches_9

theorem in_X0_latestDispatch_X0 : ∀ w ∈ wsX00, w ∈ wsX0_latestDispatch := by decide +kernel
set_option maxRecDepth 100000 in
set_option maxHeartbeats 4000000 in
theorem c_X0_latestDispatch (l : Launch) (D : va_G) (y : Nat → ClassId) (a : Nat → Nat) (R : Nat → Int → Int) (f : Int → Int) (hG : Lg f) (hN : Ns f) (hR : Rel f R) : Met l yX0_latestDispatch wsX0_latestDispatch ({ frames := 1, cells := 0, slots := 0, locals := 21 } : Room) (zPp D vwCl (zT y) (wR y a R) [.ref (a 0)]) (vp_Si (fun r => r = iZ (f 9))) 0 0 (fun _ => False) := by
  refine z_headP (cc := cX0_latestDispatch) (maxL := 1) (ret := (some .int)) [(0, .ref (a 0))] rfl (Nat.le_of_ble_eq_true rfl) (by decide +kernel) rfl ?_
  intro pp ee ss mm below meth cd mx mb mr mml mo mts mlk hK hP
  generalize ([.ref (a 0)] : List Value).toArray = args at mts ⊢
  obtain ⟨Q, hQ⟩ : ∃ Q, Q = MQ below (vp_Si (fun r => r = iZ (f 9))) args ss 0 0 (fun _ => False) := ⟨_, rfl⟩
  rw [← hQ]
  obtain ⟨⟨r0, r1, r2, r3, r4⟩, rc, rb, ⟨s0, s1, s2, s3⟩, rt, rl⟩ := id hR
  obtain ⟨g1, g2, g3⟩ := id hG
  obtain ⟨n3, n4, n5, n6, n7, n8, n9, n10⟩ := id hN
  refine z_aload_n mx mb dX0_latestDispatch_0 rfl 0 rfl ?_
  refine z_get (C := RX0) (T := TX0) (N := 9) mx mb mts (in_X0_latestDispatch_X0) mo hK (zgp hP) 0 wR_0 rfl 8 (by decide) (mts _ (List.mem_of_getElem? (i := 1) rfl)) (fun _ h9 => h9) rfl dX0_latestDispatch_1 ?_
  refine z_if_ne (tgt := 11) mx mb (by omega) dX0_latestDispatch_4 (by decide) (fun c4 => ?_) (fun c4 => ?_)
  · skip
    refine z_aload_n mx mb dX0_latestDispatch_11 rfl 0 rfl ?_
    refine z_get (C := RX0) (T := TX0) (N := 9) mx mb mts (in_X0_latestDispatch_X0) mo hK (zgp hP) 0 wR_0 rfl 4 (by decide) (mts _ (List.mem_of_getElem? (i := 2) rfl)) (fun _ h9 => h9) rfl dX0_latestDispatch_12 ?_
    refine z_aload_n mx mb dX0_latestDispatch_15 rfl 0 rfl ?_
    refine z_iconst mx mb dX0_latestDispatch_16 ?_
    refine z_callP (As := [.int (iZ 0)]) (rest := [.ref (a 13)]) ⟨mx, mb, mml, mo, mts⟩ hK (zgp hP) (c_X0_logPlace l D y a R f 0 (by omega)) (cwV 1 mts gX0_latestDispatch_X0_logPlace rfl rfl rfl (by decide +kernel) ⟨Nat.le_of_ble_eq_true rfl, Nat.le_of_ble_eq_true rfl⟩) (fun _ h => h) 0 wR_0 rfl rfl rfl rfl (Nat.le_of_ble_eq_true rfl) ⟨Nat.zero_le _, Nat.zero_le _⟩ dX0_latestDispatch_17 ?_
    refine z_iald mx mb hK (zgp hP) 13 0 wR_13 rfl (by decide) (by omega) dX0_latestDispatch_20 ?_
    rw [hQ]
    exact z_retP mx mb mr mlk (by rw [(g3 (by omega)).1, r4, (rl 0 (by omega) (by rw [g1]; split <;> omega)).1, Int.sub_zero]) dX0_latestDispatch_21
  · skip
    refine z_iconst mx mb dX0_latestDispatch_7 ?_
    refine z_goto (tgt := 21) mx mb dX0_latestDispatch_8 (by decide) ?_
    rw [hQ]
    exact z_retP mx mb mr mlk (by rw [g2 (by omega)]) dX0_latestDispatch_21

theorem in_X0_reasonOf_X0 : ∀ w ∈ wsX00, w ∈ wsX0_reasonOf := by decide +kernel
theorem in_X0_reasonOf_X3 : ∀ w ∈ wsX30, w ∈ wsX0_reasonOf := by decide +kernel
set_option maxRecDepth 100000 in
set_option maxHeartbeats 4000000 in
theorem c_X0_reasonOf (l : Launch) (D : va_G) (y : Nat → ClassId) (a : Nat → Nat) (R : Nat → Int → Int) (f : Int → Int) (t : Nat) (ht : (t : Int) < f 2 ∧ t < 4) (hs : 0 ≤ f (79 + 8 * (t : Int) + 5) ∧ f (79 + 8 * (t : Int) + 5) ≤ 200000) (hA : Ap f) (hG : Lg f) (hN : Ns f) (hR : Rel f R) (hW : Wf f) : Met l yX0_reasonOf wsX0_reasonOf ({ frames := 2, cells := 0, slots := 0, locals := 44 } : Room) (zPp D vwCl (zT y) (wR y a R) [.ref (a 0), .ref (a (8 + t))]) (vp_Si (fun r => r = iZ (whyOf f (t : Int)))) 0 0 (fun _ => False) := by
  refine z_headP (cc := cX0_reasonOf) (maxL := 4) (ret := (some .int)) [(0, .ref (a 0)), (1, .ref (a (8 + t)))] rfl (Nat.le_of_ble_eq_true rfl) (by decide +kernel) rfl ?_
  intro pp ee ss mm below meth cd mx mb mr mml mo mts mlk hK hP
  generalize ([.ref (a 0), .ref (a (8 + t))] : List Value).toArray = args at mts ⊢
  obtain ⟨Q, hQ⟩ : ∃ Q, Q = MQ below (vp_Si (fun r => r = iZ (whyOf f (t : Int)))) args ss 0 0 (fun _ => False) := ⟨_, rfl⟩
  rw [← hQ]
  obtain ⟨⟨r0, r1, r2, r3, r4⟩, rc, rb, ⟨s0, s1, s2, s3⟩, rt, rl⟩ := id hR
  obtain ⟨w0, w1, w2, w3, w4, w5, w6⟩ := id hW
  have et : ∀ k : Int, 0 ≤ k → k < 8 → R (8 + t) k = f (79 + 8 * (t : Int) + k) := rt t ht.1
  have q0 := w6 (t : Int) (by omega) (by omega)
  obtain ⟨n3, n4, n5, n6, n7, n8, n9, n10⟩ := id hN
  have e4 := et 4 (by omega) (by omega)
  have e5 := et 5 (by omega) (by omega)
  have kb := blockAt_rng hW q0.1
  have kn := nextB_rng hW kb
  refine z_aload_n mx mb dX0_reasonOf_0 rfl 1 rfl ?_
  refine z_get (C := RX3) (T := TX3) (N := 8) mx mb mts (in_X0_reasonOf_X3) mo hK (zgp hP) (8 + t) (wR_t (by omega)) rfl 4 (by decide) (mts _ (List.mem_of_getElem? (i := 1) rfl)) (fun _ h9 => h9) rfl dX0_reasonOf_1 ?_
  refine z_if_ne (tgt := 9) mx mb (by omega) dX0_reasonOf_4 (by decide) (fun c4 => ?_) (fun c4 => ?_)
  · skip
    refine z_aload_n mx mb dX0_reasonOf_9 rfl 1 rfl ?_
    refine z_get (C := RX3) (T := TX3) (N := 8) mx mb mts (in_X0_reasonOf_X3) mo hK (zgp hP) (8 + t) (wR_t (by omega)) rfl 4 (by decide) (mts _ (List.mem_of_getElem? (i := 1) rfl)) (fun _ h9 => h9) rfl dX0_reasonOf_10 ?_
    refine z_iconst mx mb dX0_reasonOf_13 ?_
    refine z_icmp_ne (tgt := 19) mx mb (by omega) (by omega) dX0_reasonOf_14 (by decide) (fun c14 => ?_) (fun c14 => ?_)
    · skip
      refine z_aload_n mx mb dX0_reasonOf_19 rfl 0 rfl ?_
      refine z_aload_n mx mb dX0_reasonOf_20 rfl 1 rfl ?_
      refine z_callP (As := [.ref (a (8 + t))]) (rest := []) ⟨mx, mb, mml, mo, mts⟩ hK (zgp hP) (c_X0_blockOf l D y a R f t (by omega) (by assumption) (by assumption)) (cwV 1 mts gX0_reasonOf_X0_blockOf rfl rfl rfl (by decide +kernel) ⟨Nat.le_of_ble_eq_true rfl, Nat.le_of_ble_eq_true rfl⟩) (fun _ h => h) 0 wR_0 rfl rfl rfl rfl (Nat.le_of_ble_eq_true rfl) ⟨Nat.zero_le _, Nat.zero_le _⟩ dX0_reasonOf_21 ?_
      refine z_istore_n mx mb dX0_reasonOf_24 rfl (by decide) [(2, .int (iZ (blockAt f (f (79 + 8 * (t : Int) + 0))))), (0, .ref (a 0)), (1, .ref (a (8 + t)))] rfl ?_
      refine z_aload_n mx mb dX0_reasonOf_25 rfl 1 rfl ?_
      refine z_aload_n mx mb dX0_reasonOf_26 rfl 1 rfl ?_
      refine z_get (C := RX0) (T := TX0) (N := 9) mx mb mts (in_X0_reasonOf_X0) mo hK (zgp hP) 0 wR_0 rfl 0 (by decide) (mts _ (List.mem_of_getElem? (i := 2) rfl)) (fun _ h9 => h9) rfl dX0_reasonOf_27 ?_
      refine z_iload_n mx mb dX0_reasonOf_30 rfl 0 rfl ?_
      refine z_callP (As := [.int (iZ (blockAt f (f (79 + 8 * (t : Int) + 0))))]) (rest := [.ref (a 0)]) ⟨mx, mb, mml, mo, mts⟩ hK (zgp hP) (c_X1_nextBlock l D y a R f (blockAt f (f (79 + 8 * (t : Int) + 0))) (by omega) (by assumption) (by assumption)) (cwV 1 mts gX0_reasonOf_X1_nextBlock rfl rfl rfl (by decide +kernel) ⟨Nat.le_of_ble_eq_true rfl, Nat.le_of_ble_eq_true rfl⟩) (fun _ h => h) 1 wR_1 rfl rfl rfl rfl (Nat.le_of_ble_eq_true rfl) ⟨Nat.zero_le _, Nat.zero_le _⟩ dX0_reasonOf_31 ?_
      refine z_callP (As := [.int (iZ (nextB f (blockAt f (f (79 + 8 * (t : Int) + 0)))))]) (rest := []) ⟨mx, mb, mml, mo, mts⟩ hK (zgp hP) (c_X0_isFree l D y a R f (nextB f (blockAt f (f (79 + 8 * (t : Int) + 0)))) (by omega) (by assumption) (by assumption) (by assumption)) (cwV 1 mts gX0_reasonOf_X0_isFree rfl rfl rfl (by decide +kernel) ⟨Nat.le_of_ble_eq_true rfl, Nat.le_of_ble_eq_true rfl⟩) (fun _ h => h) 0 wR_0 rfl rfl rfl rfl (Nat.le_of_ble_eq_true rfl) ⟨Nat.zero_le _, Nat.zero_le _⟩ dX0_reasonOf_34 ?_
      refine z_if_ne (tgt := 42) mx mb (b2z_rng _) dX0_reasonOf_37 (by decide) (fun c37 => ?_) (fun c37 => ?_)
      · skip
        refine z_iload_n mx mb dX0_reasonOf_42 rfl 0 rfl ?_
        refine z_if_ne (tgt := 50) mx mb (by omega) dX0_reasonOf_43 (by decide) (fun c43 => ?_) (fun c43 => ?_)
        · skip
          refine z_iconst mx mb dX0_reasonOf_50 ?_
          refine z_istore_n mx mb dX0_reasonOf_51 rfl (by decide) [(3, .int (iZ 0)), (2, .int (iZ (blockAt f (f (79 + 8 * (t : Int) + 0))))), (0, .ref (a 0)), (1, .ref (a (8 + t)))] rfl ?_
          refine z_iload_n mx mb dX0_reasonOf_52 rfl 0 rfl ?_
          refine z_if_eq (tgt := 73) mx mb (by omega) dX0_reasonOf_53 (by decide) (fun c53 => ?_) (fun c53 => ?_)
          · skip
            refine z_iload_n mx mb dX0_reasonOf_73 rfl 0 rfl ?_
            refine z_if_eq (tgt := 104) mx mb (by omega) dX0_reasonOf_74 (by decide) (fun c74 => ?_) (fun c74 => ?_)
            · skip
              refine z_iconst mx mb dX0_reasonOf_104 ?_
              rw [hQ]
              exact z_retP mx mb mr mlk (by unfold whyOf; rw [if_neg (by omega), if_neg (by omega)]; unfold holds; rw [if_pos (b2z_ne c37)]; rw [if_neg c43]) dX0_reasonOf_105
            · skip
              exact absurd c74 (by omega)
          · skip
            exact absurd c53 (by omega)
        · skip
          refine z_iconst mx mb dX0_reasonOf_46 ?_
          refine z_goto (tgt := 51) mx mb dX0_reasonOf_47 (by decide) ?_
          refine z_istore_n mx mb dX0_reasonOf_51 rfl (by decide) [(3, .int (iZ 1)), (2, .int (iZ (blockAt f (f (79 + 8 * (t : Int) + 0))))), (0, .ref (a 0)), (1, .ref (a (8 + t)))] rfl ?_
          refine z_iload_n mx mb dX0_reasonOf_52 rfl 0 rfl ?_
          refine z_if_eq (tgt := 73) mx mb (by omega) dX0_reasonOf_53 (by decide) (fun c53 => ?_) (fun c53 => ?_)
          · skip
            exact absurd c53 (by omega)
          · skip
            refine z_aload_n mx mb dX0_reasonOf_56 rfl 3 rfl ?_
            refine z_get (C := RX3) (T := TX3) (N := 8) mx mb mts (in_X0_reasonOf_X3) mo hK (zgp hP) (8 + t) (wR_t (by omega)) rfl 5 (by decide) (mts _ (List.mem_of_getElem? (i := 3) rfl)) (fun _ h9 => h9) rfl dX0_reasonOf_57 ?_
            refine z_iconst mx mb dX0_reasonOf_60 ?_
            refine z_iadd mx mb dX0_reasonOf_61 ?_
            refine z_aload_n mx mb dX0_reasonOf_62 rfl 2 rfl ?_
            refine z_get (C := RX0) (T := TX0) (N := 9) mx mb mts (in_X0_reasonOf_X0) mo hK (zgp hP) 0 wR_0 rfl 2 (by decide) (mts _ (List.mem_of_getElem? (i := 4) rfl)) (fun _ h9 => h9) rfl dX0_reasonOf_63 ?_
            refine z_iconst mx mb dX0_reasonOf_66 ?_
            refine z_iald mx mb hK (zgp hP) 7 0 wR_7 rfl (by decide) (by omega) dX0_reasonOf_67 ?_
            refine z_icmp_ge (tgt := 73) mx mb (by omega) (by omega) dX0_reasonOf_68 (by decide) (fun c68 => ?_) (fun c68 => ?_)
            · skip
              refine z_iload_n mx mb dX0_reasonOf_73 rfl 0 rfl ?_
              refine z_if_eq (tgt := 104) mx mb (by omega) dX0_reasonOf_74 (by decide) (fun c74 => ?_) (fun c74 => ?_)
              · skip
                exact absurd c74 (by omega)
              · skip
                refine z_aload_n mx mb dX0_reasonOf_77 rfl 2 rfl ?_
                refine z_get (C := RX0) (T := TX0) (N := 9) mx mb mts (in_X0_reasonOf_X0) mo hK (zgp hP) 0 wR_0 rfl 8 (by decide) (mts _ (List.mem_of_getElem? (i := 5) rfl)) (fun _ h9 => h9) rfl dX0_reasonOf_78 ?_
                refine z_if_le (tgt := 104) mx mb (by omega) dX0_reasonOf_81 (by decide) (fun c81 => ?_) (fun c81 => ?_)
                · skip
                  refine z_iconst mx mb dX0_reasonOf_104 ?_
                  rw [hQ]
                  exact z_retP mx mb mr mlk (by unfold whyOf; rw [if_neg (by omega), if_neg (by omega)]; unfold holds; rw [if_pos (b2z_ne c37)]; rw [if_pos c43]; rw [if_neg (by omega)]; rw [if_pos (isGap_iff.mpr (Or.inl (hG.2.1 (by omega))))]) dX0_reasonOf_105
                · skip
                  refine z_aload_n mx mb dX0_reasonOf_84 rfl 2 rfl ?_
                  refine z_get (C := RX0) (T := TX0) (N := 9) mx mb mts (in_X0_reasonOf_X0) mo hK (zgp hP) 0 wR_0 rfl 7 (by decide) (mts _ (List.mem_of_getElem? (i := 6) rfl)) (fun _ h9 => h9) rfl dX0_reasonOf_85 ?_
                  refine z_aload_n mx mb dX0_reasonOf_88 rfl 2 rfl ?_
                  refine z_callP (As := []) (rest := [.int (iZ (R 0 1))]) ⟨mx, mb, mml, mo, mts⟩ hK (zgp hP) (c_X0_latestDispatch l D y a R f  (by assumption) (by assumption) (by assumption)) (cwV 0 mts gX0_reasonOf_X0_latestDispatch rfl rfl rfl (by decide +kernel) ⟨Nat.le_of_ble_eq_true rfl, Nat.le_of_ble_eq_true rfl⟩) (fun _ h => h) 0 wR_0 rfl rfl rfl rfl (Nat.le_of_ble_eq_true rfl) ⟨Nat.zero_le _, Nat.zero_le _⟩ dX0_reasonOf_89 ?_
                  refine z_isub mx mb dX0_reasonOf_92 ?_
                  refine z_aload_n mx mb dX0_reasonOf_93 rfl 2 rfl ?_
                  refine z_get (C := RX0) (T := TX0) (N := 9) mx mb mts (in_X0_reasonOf_X0) mo hK (zgp hP) 0 wR_0 rfl 2 (by decide) (mts _ (List.mem_of_getElem? (i := 4) rfl)) (fun _ h9 => h9) rfl dX0_reasonOf_94 ?_
                  refine z_iconst mx mb dX0_reasonOf_97 ?_
                  refine z_iald mx mb hK (zgp hP) 7 0 wR_7 rfl (by decide) (by omega) dX0_reasonOf_98 ?_
                  refine z_icmp_ge (tgt := 104) mx mb (by omega) (by omega) dX0_reasonOf_99 (by decide) (fun c99 => ?_) (fun c99 => ?_)
                  · skip
                    refine z_iconst mx mb dX0_reasonOf_104 ?_
                    rw [hQ]
                    exact z_retP mx mb mr mlk (by unfold whyOf; rw [if_neg (by omega), if_neg (by omega)]; unfold holds; rw [if_pos (b2z_ne c37)]; rw [if_pos c43]; rw [if_neg (by omega)]; rw [if_pos (isGap_iff.mpr (Or.inr (by omega)))]) dX0_reasonOf_105
                  · skip
                    refine z_iconst mx mb dX0_reasonOf_102 ?_
                    rw [hQ]
                    exact z_retP mx mb mr mlk (by unfold whyOf; rw [if_neg (by omega), if_neg (by omega)]; unfold holds; rw [if_pos (b2z_ne c37)]; rw [if_pos c43]; rw [if_neg (by omega)]; rw [if_neg (fun q => by have g9 := (hG.2.2 (by omega)).2; have := isGap_iff.mp q; omega)]) dX0_reasonOf_103
            · skip
              refine z_iconst mx mb dX0_reasonOf_71 ?_
              rw [hQ]
              exact z_retP mx mb mr mlk (by unfold whyOf; rw [if_neg (by omega), if_neg (by omega)]; unfold holds; rw [if_pos (b2z_ne c37)]; rw [if_pos c43]; rw [if_pos (by omega)]) dX0_reasonOf_72
      · skip
        refine z_iconst mx mb dX0_reasonOf_40 ?_
        rw [hQ]
        exact z_retP mx mb mr mlk (by unfold whyOf; rw [if_neg (by omega), if_neg (by omega)]; unfold holds; rw [if_neg (b2z_e c37)]) dX0_reasonOf_41
    · skip
      refine z_iconst mx mb dX0_reasonOf_17 ?_
      rw [hQ]
      exact z_retP mx mb mr mlk (by unfold whyOf; rw [if_neg (by omega), if_pos (by omega)]) dX0_reasonOf_18
  · skip
    refine z_iconst mx mb dX0_reasonOf_7 ?_
    rw [hQ]
    exact z_retP mx mb mr mlk (by unfold whyOf; rw [if_pos (by omega)]) dX0_reasonOf_8

set_option maxRecDepth 100000 in
set_option maxHeartbeats 4000000 in
theorem c_X1_leastSquareToBrake (l : Launch) (D : va_G) (y : Nat → ClassId) (a : Nat → Nat) (R : Nat → Int → Int) (f : Int → Int) (c dr : Int) (hc : 0 ≤ c ∧ c < f 0) (hdr : dr = f 4) (h4 : 0 ≤ f 4 ∧ f 4 ≤ 20) (hR : Rel f R) (hW : Wf f) : Met l yX1_leastSquareToBrake wsX1_leastSquareToBrake ({ frames := 3, cells := 0, slots := 0, locals := 72 } : Room) (zPp D vwCl (zT y) (wR y a R) [.ref (a 1), .int (iZ c), .int (iZ dr)]) (vp_Si (fun r => r = iZ (leastS f c))) 0 0 (fun _ => False) := by
  refine z_headP (cc := cX1_leastSquareToBrake) (maxL := 6) (ret := (some .int)) [(0, .ref (a 1)), (1, .int (iZ c)), (2, .int (iZ dr))] rfl (Nat.le_of_ble_eq_true rfl) (by decide +kernel) rfl ?_
  intro pp ee ss mm below meth cd mx mb mr mml mo mts mlk hK hP
  generalize ([.ref (a 1), .int (iZ c), .int (iZ dr)] : List Value).toArray = args at mts ⊢
  obtain ⟨Q, hQ⟩ : ∃ Q, Q = MQ below (vp_Si (fun r => r = iZ (leastS f c))) args ss 0 0 (fun _ => False) := ⟨_, rfl⟩
  rw [← hQ]
  obtain ⟨⟨r0, r1, r2, r3, r4⟩, rc, rb, ⟨s0, s1, s2, s3⟩, rt, rl⟩ := id hR
  obtain ⟨w0, w1, w2, w3, w4, w5, w6⟩ := id hW
  obtain ⟨l0, l1, l2⟩ := least_spec f c
  refine z_iconst mx mb dX1_leastSquareToBrake_0 ?_
  refine z_istore_n mx mb dX1_leastSquareToBrake_1 rfl (by decide) [(3, .int (iZ 0)), (0, .ref (a 1)), (1, .int (iZ c)), (2, .int (iZ dr))] rfl ?_
  refine z_sipush mx mb dX1_leastSquareToBrake_2 (by decide +kernel) ?_
  refine z_istore mx mb dX1_leastSquareToBrake_5 (by decide) [(4, .int (iZ 8192)), (3, .int (iZ 0)), (0, .ref (a 1)), (1, .int (iZ c)), (2, .int (iZ dr))] rfl ?_
  have lp7 : ∀ (nn : Nat) (x3 x4 : Int), x4.toNat < nn → (0 ≤ x3 ∧ x3 ≤ 10000) → (x4 = 8192 ∨ x4 = 4096 ∨ x4 = 2048 ∨ x4 = 1024 ∨ x4 = 512 ∨ x4 = 256 ∨ x4 = 128 ∨ x4 = 64 ∨ x4 = 32 ∨ x4 = 16 ∨ x4 = 8 ∨ x4 = 4 ∨ x4 = 2 ∨ x4 = 1 ∨ x4 = 0) → (x3 ≤ bis f c 20 0 10000 ∧ (x4 = 0 → bis f c 20 0 10000 < x3 + 1) ∧ (0 < x4 → bis f c 20 0 10000 < x3 + 2 * x4)) → Gz pp l ee ({ frames := 3, cells := 0, slots := 0, locals := 72 } : Room) ss mm args below meth cd 6 0 0 Q (Zp ss) 7 [(0, .ref (a 1)), (1, .int (iZ c)), (2, .int (iZ dr)), (3, .int (iZ x3)), (4, .int (iZ x4))] [] := by
    intro nn
    induction nn with
    | zero => exact fun x3 x4 hm => absurd hm (Nat.not_lt_zero _)
    | succ nn ih =>
      intro x3 x4 hm h3 hp hL
      refine z_iload mx mb dX1_leastSquareToBrake_7 4 rfl ?_
      refine z_if_le (tgt := 53) mx mb (by omega) dX1_leastSquareToBrake_9 (by decide) (fun c9 => ?_) (fun c9 => ?_)
      · skip
        refine z_iload_n mx mb dX1_leastSquareToBrake_53 rfl 3 rfl ?_
        refine z_sipush mx mb dX1_leastSquareToBrake_54 (by decide +kernel) ?_
        refine z_icmp_le (tgt := 64) mx mb (by omega) (by omega) dX1_leastSquareToBrake_57 (by decide) (fun c57 => ?_) (fun c57 => ?_)
        · skip
          refine z_iload_n mx mb dX1_leastSquareToBrake_64 rfl 3 rfl ?_
          rw [hQ]
          exact z_retP mx mb mr mlk (by unfold leastS; rw [if_neg (by omega)]; omega) dX1_leastSquareToBrake_65
        · skip
          refine z_iconst mx mb dX1_leastSquareToBrake_60 ?_
          refine z_goto (tgt := 65) mx mb dX1_leastSquareToBrake_61 (by decide) ?_
          rw [hQ]
          exact z_retP mx mb mr mlk (by unfold leastS; rw [if_pos (by omega)]) dX1_leastSquareToBrake_65
      · skip
        refine z_iload_n mx mb dX1_leastSquareToBrake_12 rfl 3 rfl ?_
        refine z_iload mx mb dX1_leastSquareToBrake_13 4 rfl ?_
        refine z_iadd mx mb dX1_leastSquareToBrake_15 ?_
        refine z_istore mx mb dX1_leastSquareToBrake_16 (by decide) [(5, .int (iZ (x3 + x4))), (0, .ref (a 1)), (1, .int (iZ c)), (2, .int (iZ dr)), (3, .int (iZ x3)), (4, .int (iZ x4))] rfl ?_
        refine z_iload mx mb dX1_leastSquareToBrake_18 0 rfl ?_
        refine z_iconst mx mb dX1_leastSquareToBrake_20 ?_
        refine z_isub mx mb dX1_leastSquareToBrake_21 ?_
        refine z_sipush mx mb dX1_leastSquareToBrake_22 (by decide +kernel) ?_
        refine z_icmp_gt (tgt := 44) mx mb (by omega) (by omega) dX1_leastSquareToBrake_25 (by decide) (fun c25 => ?_) (fun c25 => ?_)
        · skip
          refine z_iload mx mb dX1_leastSquareToBrake_44 5 rfl ?_
          refine z_iconst mx mb dX1_leastSquareToBrake_46 ?_
          refine z_idiv mx mb (by omega) (by omega) dX1_leastSquareToBrake_47 ?_
          refine z_istore mx mb dX1_leastSquareToBrake_48 (by decide) [(4, .int (iZ (x4 / 2))), (5, .int (iZ (x3 + x4))), (0, .ref (a 1)), (1, .int (iZ c)), (2, .int (iZ dr)), (3, .int (iZ x3))] rfl ?_
          refine z_goto (tgt := 7) mx mb dX1_leastSquareToBrake_50 (by decide) ?_
          refine z_lv [2, 3, 4, 5, 0] rfl ?_
          exact ih _ _ (by omega) (by omega) (by omega) (by omega)
        · skip
          refine z_aload_n mx mb dX1_leastSquareToBrake_28 rfl 1 rfl ?_
          refine z_iload_n mx mb dX1_leastSquareToBrake_29 rfl 2 rfl ?_
          refine z_iload mx mb dX1_leastSquareToBrake_30 0 rfl ?_
          refine z_iconst mx mb dX1_leastSquareToBrake_32 ?_
          refine z_isub mx mb dX1_leastSquareToBrake_33 ?_
          refine z_iload_n mx mb dX1_leastSquareToBrake_34 rfl 3 rfl ?_
          refine z_callP (As := [.int (iZ c), .int (iZ ((x3 + x4) - 1)), .int (iZ dr)]) (rest := []) ⟨mx, mb, mml, mo, mts⟩ hK (zgp hP) (c_X1_comesToBrake l D y a R f c ((x3 + x4) - 1) dr (by omega) (by omega) (by omega) (by assumption) (by assumption)) (cwV 3 mts gX1_leastSquareToBrake_X1_comesToBrake rfl rfl rfl (by decide +kernel) ⟨Nat.le_of_ble_eq_true rfl, Nat.le_of_ble_eq_true rfl⟩) (fun _ h => h) 1 wR_1 rfl rfl rfl rfl (Nat.le_of_ble_eq_true rfl) ⟨Nat.zero_le _, Nat.zero_le _⟩ dX1_leastSquareToBrake_35 ?_
          refine z_if_ne (tgt := 44) mx mb (b2z_rng _) dX1_leastSquareToBrake_38 (by decide) (fun c38 => ?_) (fun c38 => ?_)
          · skip
            have z : bis f c 20 0 10000 ≤ x3 + x4 - 1 := by
              rcases Int.lt_or_le (x3 + x4 - 1) (bis f c 20 0 10000) with z9 | z9
              · exact absurd (b2z_ne c38) (by rw [hdr]; exact l1 _ (by omega) z9)
              · exact z9
            refine z_iload mx mb dX1_leastSquareToBrake_44 5 rfl ?_
            refine z_iconst mx mb dX1_leastSquareToBrake_46 ?_
            refine z_idiv mx mb (by omega) (by omega) dX1_leastSquareToBrake_47 ?_
            refine z_istore mx mb dX1_leastSquareToBrake_48 (by decide) [(4, .int (iZ (x4 / 2))), (5, .int (iZ (x3 + x4))), (0, .ref (a 1)), (1, .int (iZ c)), (2, .int (iZ dr)), (3, .int (iZ x3))] rfl ?_
            refine z_goto (tgt := 7) mx mb dX1_leastSquareToBrake_50 (by decide) ?_
            refine z_lv [2, 3, 4, 5, 0] rfl ?_
            exact ih _ _ (by omega) (by omega) (by omega) (by omega)
          · skip
            have z : x3 + x4 ≤ bis f c 20 0 10000 := by
              rcases Int.lt_or_le (x3 + x4 - 1) (bis f c 20 0 10000) with z9 | z9
              · omega
              · exact absurd (l2 _ z9 (by omega)) (by rw [← hdr]; exact b2z_e c38)
            refine z_iload mx mb dX1_leastSquareToBrake_41 0 rfl ?_
            refine z_istore_n mx mb dX1_leastSquareToBrake_43 rfl (by decide) [(3, .int (iZ (x3 + x4))), (5, .int (iZ (x3 + x4))), (0, .ref (a 1)), (1, .int (iZ c)), (2, .int (iZ dr)), (4, .int (iZ x4))] rfl ?_
            refine z_iload mx mb dX1_leastSquareToBrake_44 5 rfl ?_
            refine z_iconst mx mb dX1_leastSquareToBrake_46 ?_
            refine z_idiv mx mb (by omega) (by omega) dX1_leastSquareToBrake_47 ?_
            refine z_istore mx mb dX1_leastSquareToBrake_48 (by decide) [(4, .int (iZ (x4 / 2))), (3, .int (iZ (x3 + x4))), (5, .int (iZ (x3 + x4))), (0, .ref (a 1)), (1, .int (iZ c)), (2, .int (iZ dr))] rfl ?_
            refine z_goto (tgt := 7) mx mb dX1_leastSquareToBrake_50 (by decide) ?_
            refine z_lv [3, 4, 5, 1, 0] rfl ?_
            exact ih _ _ (by omega) (by omega) (by omega) (by omega)
  refine z_lv [2, 3, 4, 1, 0] rfl ?_
  exact lp7 _ 0 8192 (Nat.lt_succ_self _) (by omega) (by omega) (by omega)

/-! one train -/
theorem in_X3_speed_X3 : ∀ w ∈ wsX30, w ∈ wsX3_speed := by decide +kernel
set_option maxRecDepth 100000 in
set_option maxHeartbeats 4000000 in
theorem c_X3_speed (l : Launch) (D : va_G) (y : Nat → ClassId) (b : Nat) (v : Int → Int) (hv : 0 ≤ v 1 ∧ v 1 ≤ 9999) : Met l yX3_speed wsX3_speed ({ frames := 0, cells := 0, slots := 0, locals := 0 } : Room) (zPp D vwCl (zT y) (wT b v) [.ref b]) (vp_Si (fun r => r = iZ (root (v 1)))) 0 0 (fun _ => False) := by
  refine z_headP (cc := cX3_speed) (maxL := 4) (ret := (some .int)) [(0, .ref b)] rfl (Nat.le_of_ble_eq_true rfl) (by decide +kernel) rfl ?_
  intro pp ee ss mm below meth cd mx mb mr mml mo mts mlk hK hP
  generalize ([.ref b] : List Value).toArray = args at mts ⊢
  obtain ⟨Q, hQ⟩ : ∃ Q, Q = MQ below (vp_Si (fun r => r = iZ (root (v 1)))) args ss 0 0 (fun _ => False) := ⟨_, rfl⟩
  rw [← hQ]
  have rs := root_spec hv
  refine z_iconst mx mb dX3_speed_0 ?_
  refine z_istore_n mx mb dX3_speed_1 rfl (by decide) [(1, .int (iZ 0)), (0, .ref b)] rfl ?_
  refine z_bipush mx mb dX3_speed_2 (by decide +kernel) ?_
  refine z_istore_n mx mb dX3_speed_4 rfl (by decide) [(2, .int (iZ 64)), (1, .int (iZ 0)), (0, .ref b)] rfl ?_
  have lp5 : ∀ (nn : Nat) (x1 x2 : Int), x2.toNat < nn → (0 ≤ x1 ∧ x1 ≤ 99) → (x2 = 64 ∨ x2 = 32 ∨ x2 = 16 ∨ x2 = 8 ∨ x2 = 4 ∨ x2 = 2 ∨ x2 = 1 ∨ x2 = 0) → (x1 ≤ root (v 1) ∧ (x2 = 0 → root (v 1) < x1 + 1) ∧ (0 < x2 → root (v 1) < x1 + 2 * x2)) → Gz pp l ee ({ frames := 0, cells := 0, slots := 0, locals := 0 } : Room) ss mm args below meth cd 4 0 0 Q (Zp ss) 5 [(0, .ref b), (1, .int (iZ x1)), (2, .int (iZ x2))] [] := by
    intro nn
    induction nn with
    | zero => exact fun x1 x2 hm => absurd hm (Nat.not_lt_zero _)
    | succ nn ih =>
      intro x1 x2 hm h1 hp hL
      refine z_iload_n mx mb dX3_speed_5 rfl 2 rfl ?_
      refine z_if_le (tgt := 32) mx mb (by omega) dX3_speed_6 (by decide) (fun c6 => ?_) (fun c6 => ?_)
      · skip
        refine z_iload_n mx mb dX3_speed_32 rfl 1 rfl ?_
        rw [hQ]
        exact z_retP mx mb mr mlk (by omega) dX3_speed_33
      · skip
        have k0 : 0 ≤ (x1 + x2) * (x1 + x2) := Int.mul_nonneg (by omega) (by omega)
        have k1 : (x1 + x2) * (x1 + x2) ≤ 200 * 200 := sq_mono (by omega) (by omega)
        have k2 := root_le hv (show 0 ≤ x1 + x2 by omega)
        refine z_iload_n mx mb dX3_speed_9 rfl 1 rfl ?_
        refine z_iload_n mx mb dX3_speed_10 rfl 2 rfl ?_
        refine z_iadd mx mb dX3_speed_11 ?_
        refine z_istore_n mx mb dX3_speed_12 rfl (by decide) [(3, .int (iZ (x1 + x2))), (0, .ref b), (1, .int (iZ x1)), (2, .int (iZ x2))] rfl ?_
        refine z_iload_n mx mb dX3_speed_13 rfl 0 rfl ?_
        refine z_iload_n mx mb dX3_speed_14 rfl 0 rfl ?_
        refine z_imul mx mb dX3_speed_15 ?_
        refine z_aload_n mx mb dX3_speed_16 rfl 1 rfl ?_
        refine z_get (C := RX3) (T := TX3) (N := 8) mx mb mts (in_X3_speed_X3) mo hK (zgp hP) 0 wT_0 rfl 1 (by decide) (mts _ (List.mem_of_getElem? (i := 1) rfl)) (fun _ h9 => h9) rfl dX3_speed_17 ?_
        refine z_icmp_gt (tgt := 25) mx mb (by omega) (by omega) dX3_speed_20 (by decide) (fun c20 => ?_) (fun c20 => ?_)
        · skip
          have k3 : ¬ x1 + x2 ≤ root (v 1) := fun q => absurd (k2.mpr q) (by omega)
          refine z_iload_n mx mb dX3_speed_25 rfl 3 rfl ?_
          refine z_iconst mx mb dX3_speed_26 ?_
          refine z_idiv mx mb (by omega) (by omega) dX3_speed_27 ?_
          refine z_istore_n mx mb dX3_speed_28 rfl (by decide) [(2, .int (iZ (x2 / 2))), (3, .int (iZ (x1 + x2))), (0, .ref b), (1, .int (iZ x1))] rfl ?_
          refine z_goto (tgt := 5) mx mb dX3_speed_29 (by decide) ?_
          refine z_lv [2, 3, 0] rfl ?_
          exact ih _ _ (by omega) (by omega) (by omega) (by omega)
        · skip
          have k3 : x1 + x2 ≤ root (v 1) := k2.mp (by omega)
          refine z_iload_n mx mb dX3_speed_23 rfl 0 rfl ?_
          refine z_istore_n mx mb dX3_speed_24 rfl (by decide) [(1, .int (iZ (x1 + x2))), (3, .int (iZ (x1 + x2))), (0, .ref b), (2, .int (iZ x2))] rfl ?_
          refine z_iload_n mx mb dX3_speed_25 rfl 3 rfl ?_
          refine z_iconst mx mb dX3_speed_26 ?_
          refine z_idiv mx mb (by omega) (by omega) dX3_speed_27 ?_
          refine z_istore_n mx mb dX3_speed_28 rfl (by decide) [(2, .int (iZ (x2 / 2))), (1, .int (iZ (x1 + x2))), (3, .int (iZ (x1 + x2))), (0, .ref b)] rfl ?_
          refine z_goto (tgt := 5) mx mb dX3_speed_29 (by decide) ?_
          refine z_lv [3, 1, 0] rfl ?_
          exact ih _ _ (by omega) (by omega) (by omega) (by omega)
  refine z_lv [2, 1, 0] rfl ?_
  exact lp5 _ 0 64 (Nat.lt_succ_self _) (by omega) (by omega) (by omega)
