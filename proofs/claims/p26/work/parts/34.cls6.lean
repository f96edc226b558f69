set_option maxRecDepth 100000 in
set_option maxHeartbeats 4000000 in
theorem c_X1_kindOf (l : Launch) (D : va_G) (y : Nat → ClassId) (a : Nat → Nat) (R : Nat → Int → Int) (b : Nat → Nat) (x : Int → Int) (ln : Int) (k : Int) (hk9 : -2147483648 ≤ k ∧ k ≤ 2147483647) : Met l yX1_kindOf wsX1_kindOf ({ frames := 0, cells := 0, slots := 0, locals := 0 } : Room) (zPp D vwCl (zT y) (wRX y a R b x ln) [.int (iZ k)]) (vp_Si (fun r => r = iZ (if k = 98 then 2 else if k = 108 then 1 else 0))) 0 0 (fun _ => False) := by
  refine z_headP (cc := cX1_kindOf) (maxL := 1) (ret := (some .int)) [(0, .int (iZ k))] rfl (Nat.le_of_ble_eq_true rfl) (by decide +kernel) rfl ?_
  intro pp ee ss mm below meth cd mx mb mr mml mo mts mlk hK hP
  generalize ([.int (iZ k)] : List Value).toArray = args at mts ⊢
  obtain ⟨Q, hQ⟩ : ∃ Q, Q = MQ below (vp_Si (fun r => r = iZ (if k = 98 then 2 else if k = 108 then 1 else 0))) args ss 0 0 (fun _ => False) := ⟨_, rfl⟩
  rw [← hQ]
  refine z_iload_n mx mb dX1_kindOf_0 rfl 0 rfl ?_
  refine z_bipush mx mb dX1_kindOf_1 (by decide +kernel) ?_
  refine z_icmp_ne (tgt := 8) mx mb (by omega) (by omega) dX1_kindOf_3 (by decide) (fun c3 => ?_) (fun c3 => ?_)
  · skip
    refine z_iload_n mx mb dX1_kindOf_8 rfl 0 rfl ?_
    refine z_bipush mx mb dX1_kindOf_9 (by decide +kernel) ?_
    refine z_icmp_ne (tgt := 18) mx mb (by omega) (by omega) dX1_kindOf_11 (by decide) (fun c11 => ?_) (fun c11 => ?_)
    · skip
      refine z_iconst mx mb dX1_kindOf_18 ?_
      rw [hQ]
      exact z_retP mx mb mr mlk (by first | (rw [if_pos (by omega)]; done) | (rw [if_neg (by omega), if_pos (by omega)]; done) | (rw [if_neg (by omega), if_neg (by omega)]; done)) dX1_kindOf_19
    · skip
      refine z_iconst mx mb dX1_kindOf_14 ?_
      refine z_goto (tgt := 19) mx mb dX1_kindOf_15 (by decide) ?_
      rw [hQ]
      exact z_retP mx mb mr mlk (by first | (rw [if_pos (by omega)]; done) | (rw [if_neg (by omega), if_pos (by omega)]; done) | (rw [if_neg (by omega), if_neg (by omega)]; done)) dX1_kindOf_19
  · skip
    refine z_iconst mx mb dX1_kindOf_6 ?_
    rw [hQ]
    exact z_retP mx mb mr mlk (by first | (rw [if_pos (by omega)]; done) | (rw [if_neg (by omega), if_pos (by omega)]; done) | (rw [if_neg (by omega), if_neg (by omega)]; done)) dX1_kindOf_7

theorem in_X1_closeRing_X1 : ∀ w ∈ wsX10, w ∈ wsX1_closeRing := by decide +kernel
set_option maxRecDepth 100000 in
set_option maxHeartbeats 4000000 in
theorem c_X1_closeRing (l : Launch) (D : va_G) (sz : Nat) (y : Nat → ClassId) (a : Nat → Nat) (R : Nat → Int → Int) (b : Nat → Nat) (x : Int → Int) (ln : Int) (hn9 : 0 ≤ R 1 0 ∧ R 1 0 ≤ 30) (h49 : ∀ c : Int, 0 ≤ c → c < R 1 0 → 0 ≤ R 4 c ∧ R 4 c ≤ 30) (h19 : 0 ≤ R 1 1 ∧ R 1 1 ≤ 30) : Met l yX1_closeRing wsX1_closeRing ({ frames := 0, cells := 0, slots := 0, locals := 0 } : Room) (zPw D vwCl (zT y) (wRX y a R b x ln) sz [.ref (a 1)]) (va_Qv (fun R' : Nat → Int → Int => ∃ g : Int → Int, R' = uc R 4 g ∧ Cl R g) (zB D vwCl (zT y) (wRX y a R b x ln) sz (fun R' : Nat → Int → Int => wRX y a R' b x ln)) (va_A (wRX y a R b x ln) sz)) 0 0 (va_A (wRX y a R b x ln) sz) := by
  refine z_headW (cc := cX1_closeRing) (maxL := 2) (ret := none) [(0, .ref (a 1))] rfl (Nat.le_of_ble_eq_true rfl) (by decide +kernel) rfl ?_
  intro pp ee ss mm below meth cd mx mb mr mml mo mts mlk hK hname hsz hA
  generalize ([.ref (a 1)] : List Value).toArray = args at mts ⊢
  obtain ⟨wst, hw0⟩ : ∃ wst, wst = wRX y a R b x ln := ⟨_, rfl⟩
  have hA : ∀ q, ss.heap.size ≤ q → va_A wst sz q := by rw [hw0]; exact hA
  obtain ⟨Q, hQ⟩ : ∃ Q, Q = MQ below (va_Qv (fun R' : Nat → Int → Int => ∃ g : Int → Int, R' = uc R 4 g ∧ Cl R g) (zB D vwCl (zT y) wst sz (fun R' : Nat → Int → Int => wRX y a R' b x ln)) (va_A wst sz)) args ss 0 0 (va_A wst sz) := ⟨_, rfl⟩
  have hstart : Gz pp l ee ({ frames := 0, cells := 0, slots := 0, locals := 0 } : Room) ss mm args below meth cd 2 0 0 Q (Zw D vwCl (va_A wst sz) ss (wRX y a R b x ln)) 0 [(0, .ref (a 1))] [] := by
    refine z_iconst mx mb dX1_closeRing_0 ?_
    refine z_istore_n mx mb dX1_closeRing_1 rfl (by decide) [(1, .int (iZ 0)), (0, .ref (a 1))] rfl ?_
    have lp2 : ∀ (nn : Nat) (i : Nat) (g : Int → Int) (x1 : Int), (R 1 0).toNat - i < nn → ((i : Int) ≤ R 1 0) → (x1 = (i : Int)) → (∀ c : Nat, g (c : Int) = if c < i ∧ R 4 (c : Int) = R 1 1 then 0 else R 4 (c : Int)) → Gz pp l ee ({ frames := 0, cells := 0, slots := 0, locals := 0 } : Room) ss mm args below meth cd 2 0 0 Q (Zw D vwCl (va_A wst sz) ss (wRX y a (uc R 4 g) b x ln)) 2 [(0, .ref (a 1)), (1, .int (iZ x1))] [] := by
      intro nn
      induction nn with
      | zero => exact fun i g x1 hm => absurd hm (Nat.not_lt_zero _)
      | succ nn ih =>
        intro i g x1 hm hi e3 hg
        refine z_iload_n mx mb dX1_closeRing_2 rfl 1 rfl ?_
        refine z_aload_n mx mb dX1_closeRing_3 rfl 0 rfl ?_
        refine z_get (C := RX1) (T := TX1) (N := 6) mx mb mts (in_X1_closeRing_X1) mo hK zgw 1 wRX_1 rfl 4 (by decide) (mts _ (List.mem_of_getElem? (i := 1) rfl)) (fun _ h9 => h9) rfl dX1_closeRing_4 ?_
        refine z_top (show (uc R 4 g) 1 0 = R 1 0 from by rfl) ?_
        refine z_icmp_ge (tgt := 36) mx mb (by omega) (by omega) dX1_closeRing_7 (by decide) (fun c7 => ?_) (fun c7 => ?_)
        · skip
          rw [hQ]
          exact z_retV mx mb mr mlk hK (uc R 4 g) (by exact ⟨g, rfl, ring_end hg (by omega)⟩) rfl dX1_closeRing_36
        · skip
          have z4 := h49 (i : Int) (by omega) (by omega)
          have zg := hg i
          rw [if_neg (by omega)] at zg
          refine z_aload_n mx mb dX1_closeRing_10 rfl 0 rfl ?_
          refine z_get (C := RX1) (T := TX1) (N := 6) mx mb mts (in_X1_closeRing_X1) mo hK zgw 1 wRX_1 rfl 2 (by decide) (mts _ (List.mem_of_getElem? (i := 2) rfl)) (fun _ h9 => h9) rfl dX1_closeRing_11 ?_
          refine z_iload_n mx mb dX1_closeRing_14 rfl 1 rfl ?_
          refine z_top (show x1 = (i : Int) from by exact e3) ?_
          refine z_iald mx mb hK zgw 4 0 wRX_4 rfl (by decide) (by omega) dX1_closeRing_15 ?_
          refine z_top (show ((uc R 4 g) 4) (i : Int) = R 4 (i : Int) from by exact zg) ?_
          refine z_aload_n mx mb dX1_closeRing_16 rfl 0 rfl ?_
          refine z_get (C := RX1) (T := TX1) (N := 6) mx mb mts (in_X1_closeRing_X1) mo hK zgw 1 wRX_1 rfl 5 (by decide) (mts _ (List.mem_of_getElem? (i := 3) rfl)) (fun _ h9 => h9) rfl dX1_closeRing_17 ?_
          refine z_top (show (uc R 4 g) 1 1 = R 1 1 from by rfl) ?_
          refine z_icmp_ne (tgt := 30) mx mb (by omega) (by omega) dX1_closeRing_20 (by decide) (fun c20 => ?_) (fun c20 => ?_)
          · skip
            refine z_iinc mx mb dX1_closeRing_30 1 rfl (by decide) [(1, .int (iZ (x1 + 1))), (0, .ref (a 1))] rfl ?_
            refine z_goto (tgt := 2) mx mb dX1_closeRing_33 (by decide) ?_
            refine z_lv [1, 0] rfl ?_
            exact ih (i + 1) _ _ (by omega) (by omega) (by omega) (by exact ring_step hg (Or.inr ⟨by omega, rfl⟩))
          · skip
            refine z_aload_n mx mb dX1_closeRing_23 rfl 0 rfl ?_
            refine z_get (C := RX1) (T := TX1) (N := 6) mx mb mts (in_X1_closeRing_X1) mo hK zgw 1 wRX_1 rfl 2 (by decide) (mts _ (List.mem_of_getElem? (i := 2) rfl)) (fun _ h9 => h9) rfl dX1_closeRing_24 ?_
            refine z_iload_n mx mb dX1_closeRing_27 rfl 1 rfl ?_
            refine z_iconst mx mb dX1_closeRing_28 ?_
            refine z_iast mx mb hK 4 0 wRX_4 rfl (by decide) (by omega) dX1_closeRing_29 (wRX y a (uc (uc R 4 g) 4 (zu ((uc R 4 g) 4) x1 0)) b x ln) wRX_s4 ?_
            refine z_iinc mx mb dX1_closeRing_30 1 rfl (by decide) [(1, .int (iZ (x1 + 1))), (0, .ref (a 1))] rfl ?_
            refine z_goto (tgt := 2) mx mb dX1_closeRing_33 (by decide) ?_
            refine z_lv [1, 0] rfl ?_
            exact ih (i + 1) _ _ (by omega) (by omega) (by omega) (by exact ring_step hg (Or.inl ⟨by omega, by rw [e3]; rfl⟩))
    refine z_lv [1, 0] rfl ?_
    exact lp2 _ 0 (R 4) 0 (Nat.lt_succ_self _) (by omega) (by rfl) (by intro c; rw [if_neg (by omega)])
  subst hQ
  subst hw0
  exact hstart

theorem in_X1_read_X1 : ∀ w ∈ wsX10, w ∈ wsX1_read := by decide +kernel
theorem in_X1_read_X2 : ∀ w ∈ wsX20, w ∈ wsX1_read := by decide +kernel
set_option maxRecDepth 100000 in
set_option maxHeartbeats 4000000 in
theorem c_X1_read (l : Launch) (D : va_G) (sz : Nat) (y : Nat → ClassId) (a : Nat → Nat) (R : Nat → Int → Int) (b : Nat → Nat) (x : Int → Int) (ln : Int) (n : Nat) (hn9 : (n : Int) = ln / 2 ∧ 4 ≤ n ∧ n ≤ 30 ∧ 0 ≤ ln) (hf9 : fst' x (2 * n) = -1) (hb2 : 2 ≤ brs x (2 * n)) (htx : ∀ k : Int, 0 ≤ k → k < 90 → 0 ≤ x k ∧ x k ≤ 127) : Met l yX1_read wsX1_read ({ frames := 1, cells := 0, slots := 0, locals := 21 } : Room) (zPw D vwCl (zT y) (wRX y a R b x ln) sz [.ref (a 1), .ref (b 0)]) (va_Qv (fun R' : Nat → Int → Int => R' 1 0 = (n : Int) ∧ R' 1 1 = brs x (2 * n) ∧ (∀ c : Nat, c < n → (R' 2 (c : Int) = x (2 * (c : Int)) - 48 ∧ R' 3 (c : Int) = kindBy (x (2 * (c : Int) + 1)) ∧ R' 4 (c : Int) = (if brs x (2 * c) = brs x (2 * n) then 0 else brs x (2 * c)) ∧ (kindBy (x (2 * (c : Int) + 1)) = 2 → R' 5 (brs x (2 * c)) = (c : Int)))) ∧ (∀ j : Nat, j = 0 ∨ 6 ≤ j → R' j = R j)) (zB D vwCl (zT y) (wRX y a R b x ln) sz (fun R' : Nat → Int → Int => wRX y a R' b x ln)) (va_A (wRX y a R b x ln) sz)) 0 0 (va_A (wRX y a R b x ln) sz) := by
  refine z_headW (cc := cX1_read) (maxL := 3) (ret := none) [(0, .ref (a 1)), (1, .ref (b 0))] rfl (Nat.le_of_ble_eq_true rfl) (by decide +kernel) rfl ?_
  intro pp ee ss mm below meth cd mx mb mr mml mo mts mlk hK hname hsz hA
  generalize ([.ref (a 1), .ref (b 0)] : List Value).toArray = args at mts ⊢
  obtain ⟨wst, hw0⟩ : ∃ wst, wst = wRX y a R b x ln := ⟨_, rfl⟩
  have hA : ∀ q, ss.heap.size ≤ q → va_A wst sz q := by rw [hw0]; exact hA
  obtain ⟨Q, hQ⟩ : ∃ Q, Q = MQ below (va_Qv (fun R' : Nat → Int → Int => R' 1 0 = (n : Int) ∧ R' 1 1 = brs x (2 * n) ∧ (∀ c : Nat, c < n → (R' 2 (c : Int) = x (2 * (c : Int)) - 48 ∧ R' 3 (c : Int) = kindBy (x (2 * (c : Int) + 1)) ∧ R' 4 (c : Int) = (if brs x (2 * c) = brs x (2 * n) then 0 else brs x (2 * c)) ∧ (kindBy (x (2 * (c : Int) + 1)) = 2 → R' 5 (brs x (2 * c)) = (c : Int)))) ∧ (∀ j : Nat, j = 0 ∨ 6 ≤ j → R' j = R j)) (zB D vwCl (zT y) wst sz (fun R' : Nat → Int → Int => wRX y a R' b x ln)) (va_A wst sz)) args ss 0 0 (va_A wst sz) := ⟨_, rfl⟩
  have hstart : Gz pp l ee ({ frames := 1, cells := 0, slots := 0, locals := 21 } : Room) ss mm args below meth cd 3 0 0 Q (Zw D vwCl (va_A wst sz) ss (wRX y a R b x ln)) 0 [(0, .ref (a 1)), (1, .ref (b 0))] [] := by
    refine z_aload_n mx mb dX1_read_0 rfl 0 rfl ?_
    refine z_aload_n mx mb dX1_read_1 rfl 1 rfl ?_
    refine z_get (C := RX2) (T := TX2) (N := 2) mx mb mts (in_X1_read_X2) mo hK zgw 15 wRX_15 rfl 1 (by decide) (mts _ (List.mem_of_getElem? (i := 1) rfl)) (fun _ h9 => h9) rfl dX1_read_2 ?_
    refine z_iconst mx mb dX1_read_5 ?_
    refine z_idiv mx mb (by omega) (by omega) dX1_read_6 ?_
    refine z_put (ty := .int) (C := RX1) (T := TX1) (N := 6) mx mb mts (in_X1_read_X1) tyX1_ok nmX1 mo hK 1 wRX_1 rfl 4 (by decide) (mts _ (List.mem_of_getElem? (i := 2) rfl)) (fun _ h9 => h9) rfl (by decide +kernel) rfl rfl (Nat.le_of_ble_eq_true rfl) dX1_read_7 (wRX y a (uc R 1 (zu (R 1) 0 (ln / 2))) b x ln) wRX_s1_0 ?_
    refine z_aload_n mx mb dX1_read_10 rfl 0 rfl ?_
    refine z_iconst mx mb dX1_read_11 ?_
    refine z_put (ty := .int) (C := RX1) (T := TX1) (N := 6) mx mb mts (in_X1_read_X1) tyX1_ok nmX1 mo hK 1 wRX_1 rfl 5 (by decide) (mts _ (List.mem_of_getElem? (i := 3) rfl)) (fun _ h9 => h9) rfl (by decide +kernel) rfl rfl (Nat.le_of_ble_eq_true rfl) dX1_read_12 (wRX y a (uc (uc R 1 (zu (R 1) 0 (ln / 2))) 1 (zu ((uc R 1 (zu (R 1) 0 (ln / 2))) 1) 1 0)) b x ln) wRX_s1_1 ?_
    refine z_iconst mx mb dX1_read_15 ?_
    refine z_istore_n mx mb dX1_read_16 rfl (by decide) [(2, .int (iZ 0)), (0, .ref (a 1)), (1, .ref (b 0))] rfl ?_
    have lp17 : ∀ (nn : Nat) (i : Nat) (Ri : Nat → Int → Int) (x1 : Int), n - i < nn → (i ≤ n) → (x1 = (i : Int)) → (Rd x Ri i) → (Ri 1 0 = (n : Int)) → (∀ j : Nat, j = 0 ∨ 6 ≤ j → Ri j = R j) → Gz pp l ee ({ frames := 1, cells := 0, slots := 0, locals := 21 } : Room) ss mm args below meth cd 3 0 0 Q (Zw D vwCl (va_A wst sz) ss (wRX y a Ri b x ln)) 17 [(0, .ref (a 1)), (1, .ref (b 0)), (2, .int (iZ x1))] [] := by
      intro nn
      induction nn with
      | zero => exact fun i Ri x1 hm => absurd hm (Nat.not_lt_zero _)
      | succ nn ih =>
        intro i Ri x1 hm hi e3 hd r10 ho
        have b8 := brs_8 hf9 (2 * i) (by omega)
        have b0 := brs_rng x (2 * i)
        have r11 := hd.1
        refine z_iload_n mx mb dX1_read_17 rfl 2 rfl ?_
        refine z_aload_n mx mb dX1_read_18 rfl 0 rfl ?_
        refine z_get (C := RX1) (T := TX1) (N := 6) mx mb mts (in_X1_read_X1) mo hK zgw 1 wRX_1 rfl 4 (by decide) (mts _ (List.mem_of_getElem? (i := 2) rfl)) (fun _ h9 => h9) rfl dX1_read_19 ?_
        refine z_top (show Ri 1 0 = (n : Int) from by exact r10) ?_
        refine z_icmp_ge (tgt := 107) mx mb (by omega) (by omega) dX1_read_22 (by decide) (fun c22 => ?_) (fun c22 => ?_)
        · skip
          have hin : i = n := by omega
          have q1 : 0 ≤ Ri 1 0 ∧ Ri 1 0 ≤ 30 := by omega
          have q2 : ∀ c : Int, 0 ≤ c → c < Ri 1 0 → 0 ≤ Ri 4 c ∧ Ri 4 c ≤ 30 := fun c c0 c1 => (by obtain ⟨m, rfl⟩ : ∃ m : Nat, c = (m : Int) := ⟨c.toNat, by omega⟩; rw [(hd.2 m (by omega)).2.2.1]; have z1 := brs_rng x (2 * m); have z2 := brs_8 hf9 (2 * m) (by omega); omega)
          have q3 : 0 ≤ Ri 1 1 ∧ Ri 1 1 ≤ 30 := by omega
          refine z_aload_n mx mb dX1_read_107 rfl 0 rfl ?_
          refine z_callV0 (As := []) (rest := []) ⟨mx, mb, mml, mo, mts⟩ hK hA (fun sz => c_X1_closeRing l D sz y a Ri b x ln  (by assumption) (by assumption) (by assumption)) (cwV 0 mts gX1_read_X1_closeRing rfl rfl rfl (by decide +kernel) ⟨Nat.le_of_ble_eq_true rfl, Nat.le_of_ble_eq_true rfl⟩) 1 wRX_1 rfl rfl rfl rfl (Nat.le_of_ble_eq_true rfl) ⟨Nat.zero_le _, Nat.zero_le _⟩ dX1_read_108 (fun u108 hu108 => ?_)
          have hu108 : ∃ g : Int → Int, u108 = uc Ri 4 g ∧ Cl Ri g := hu108
          show Gz pp l ee ({ frames := 1, cells := 0, slots := 0, locals := 21 } : Room) ss mm args below meth cd 3 0 0 Q (Zw D vwCl (va_A wst sz) ss (wRX y a u108 b x ln)) 111 [(0, .ref (a 1)), (1, .ref (b 0)), (2, .int (iZ x1))] []
          obtain ⟨g, hg1, hg2⟩ := hu108
          rw [hQ]
          exact z_retV mx mb mr mlk hK u108 (by exact read_end hg1 hd hin r10 ho hg2) rfl dX1_read_111
        · skip
          have t1 := htx (2 * (i : Int)) (by omega) (by omega)
          have t2 := htx (2 * (i : Int) + 1) (by omega) (by omega)
          have nbo := fst_all hf9 (show 2 * i + 1 < 2 * n by omega)
          have kr := kindBy_rng (x (2 * (i : Int) + 1))
          refine z_aload_n mx mb dX1_read_25 rfl 0 rfl ?_
          refine z_get (C := RX1) (T := TX1) (N := 6) mx mb mts (in_X1_read_X1) mo hK zgw 1 wRX_1 rfl 0 (by decide) (mts _ (List.mem_of_getElem? (i := 4) rfl)) (fun _ h9 => h9) rfl dX1_read_26 ?_
          refine z_iload_n mx mb dX1_read_29 rfl 2 rfl ?_
          refine z_top (show x1 = (i : Int) from by exact e3) ?_
          refine z_aload_n mx mb dX1_read_30 rfl 1 rfl ?_
          refine z_get (C := RX2) (T := TX2) (N := 2) mx mb mts (in_X1_read_X2) mo hK zgw 15 wRX_15 rfl 0 (by decide) (mts _ (List.mem_of_getElem? (i := 5) rfl)) (fun _ h9 => h9) rfl dX1_read_31 ?_
          refine z_iconst mx mb dX1_read_34 ?_
          refine z_iload_n mx mb dX1_read_35 rfl 2 rfl ?_
          refine z_top (show x1 = (i : Int) from by exact e3) ?_
          refine z_imul mx mb dX1_read_36 ?_
          refine z_iald mx mb hK zgw 16 0 wRX_16 rfl (by decide) (by omega) dX1_read_37 ?_
          refine z_bipush mx mb dX1_read_38 (by decide +kernel) ?_
          refine z_isub mx mb dX1_read_40 ?_
          refine z_iast mx mb hK 2 0 wRX_2 rfl (by decide) (by omega) dX1_read_41 (wRX y a (uc Ri 2 (zu (Ri 2) (i : Int) ((x (2 * (i : Int))) - 48))) b x ln) wRX_s2 ?_
          refine z_aload_n mx mb dX1_read_42 rfl 0 rfl ?_
          refine z_get (C := RX1) (T := TX1) (N := 6) mx mb mts (in_X1_read_X1) mo hK zgw 1 wRX_1 rfl 1 (by decide) (mts _ (List.mem_of_getElem? (i := 6) rfl)) (fun _ h9 => h9) rfl dX1_read_43 ?_
          refine z_iload_n mx mb dX1_read_46 rfl 2 rfl ?_
          refine z_top (show x1 = (i : Int) from by exact e3) ?_
          refine z_aload_n mx mb dX1_read_47 rfl 1 rfl ?_
          refine z_get (C := RX2) (T := TX2) (N := 2) mx mb mts (in_X1_read_X2) mo hK zgw 15 wRX_15 rfl 0 (by decide) (mts _ (List.mem_of_getElem? (i := 5) rfl)) (fun _ h9 => h9) rfl dX1_read_48 ?_
          refine z_iconst mx mb dX1_read_51 ?_
          refine z_iload_n mx mb dX1_read_52 rfl 2 rfl ?_
          refine z_top (show x1 = (i : Int) from by exact e3) ?_
          refine z_imul mx mb dX1_read_53 ?_
          refine z_iconst mx mb dX1_read_54 ?_
          refine z_iadd mx mb dX1_read_55 ?_
          refine z_iald mx mb hK zgw 16 0 wRX_16 rfl (by decide) (by omega) dX1_read_56 ?_
          refine z_callPS (As := [.int (iZ (x ((2 * (i : Int)) + 1)))]) (rest := [.int (iZ (i : Int)), .ref (a 3)]) ⟨mx, mb, mml, mo, mts⟩ hK zgw (c_X1_kindOf l D y a (uc Ri 2 (zu (Ri 2) (i : Int) ((x (2 * (i : Int))) - 48))) b x ln (x ((2 * (i : Int)) + 1)) (by omega)) (cwS 1 mts gX1_read_X1_kindOf rfl rfl rfl (by decide +kernel) ⟨Nat.le_of_ble_eq_true rfl, Nat.le_of_ble_eq_true rfl⟩) (fun _ h => h) rfl rfl (Nat.le_of_ble_eq_true rfl) ⟨Nat.zero_le _, Nat.zero_le _⟩ dX1_read_57 ?_
          refine z_top (show (if (x ((2 * (i : Int)) + 1)) = 98 then 2 else if (x ((2 * (i : Int)) + 1)) = 108 then 1 else 0) = kindBy (x (2 * (i : Int) + 1)) from by exact kindOf_by (fun w => nbo ((bad_odd (n := 2 * i + 1) (by omega)).mpr (Or.inl (by rw [show ((2 * i + 1 : Nat) : Int) = 2 * (i : Int) + 1 by omega]; exact w))))) ?_
          refine z_iast mx mb hK 3 0 wRX_3 rfl (by decide) (by omega) dX1_read_60 (wRX y a (uc (uc Ri 2 (zu (Ri 2) (i : Int) ((x (2 * (i : Int))) - 48))) 3 (zu ((uc Ri 2 (zu (Ri 2) (i : Int) ((x (2 * (i : Int))) - 48))) 3) (i : Int) (kindBy (x (2 * (i : Int) + 1))))) b x ln) wRX_s3 ?_
          refine z_aload_n mx mb dX1_read_61 rfl 0 rfl ?_
          refine z_get (C := RX1) (T := TX1) (N := 6) mx mb mts (in_X1_read_X1) mo hK zgw 1 wRX_1 rfl 2 (by decide) (mts _ (List.mem_of_getElem? (i := 7) rfl)) (fun _ h9 => h9) rfl dX1_read_62 ?_
          refine z_iload_n mx mb dX1_read_65 rfl 2 rfl ?_
          refine z_top (show x1 = (i : Int) from by exact e3) ?_
          refine z_aload_n mx mb dX1_read_66 rfl 0 rfl ?_
          refine z_get (C := RX1) (T := TX1) (N := 6) mx mb mts (in_X1_read_X1) mo hK zgw 1 wRX_1 rfl 5 (by decide) (mts _ (List.mem_of_getElem? (i := 3) rfl)) (fun _ h9 => h9) rfl dX1_read_67 ?_
          refine z_top (show (uc (uc Ri 2 (zu (Ri 2) (i : Int) ((x (2 * (i : Int))) - 48))) 3 (zu ((uc Ri 2 (zu (Ri 2) (i : Int) ((x (2 * (i : Int))) - 48))) 3) (i : Int) (kindBy (x (2 * (i : Int) + 1))))) 1 1 = Ri 1 1 from by rfl) ?_
          refine z_iast mx mb hK 4 0 wRX_4 rfl (by decide) (by omega) dX1_read_70 (wRX y a (uc (uc (uc Ri 2 (zu (Ri 2) (i : Int) ((x (2 * (i : Int))) - 48))) 3 (zu ((uc Ri 2 (zu (Ri 2) (i : Int) ((x (2 * (i : Int))) - 48))) 3) (i : Int) (kindBy (x (2 * (i : Int) + 1))))) 4 (zu ((uc (uc Ri 2 (zu (Ri 2) (i : Int) ((x (2 * (i : Int))) - 48))) 3 (zu ((uc Ri 2 (zu (Ri 2) (i : Int) ((x (2 * (i : Int))) - 48))) 3) (i : Int) (kindBy (x (2 * (i : Int) + 1))))) 4) (i : Int) (Ri 1 1))) b x ln) wRX_s4 ?_
          refine z_aload_n mx mb dX1_read_71 rfl 0 rfl ?_
          refine z_get (C := RX1) (T := TX1) (N := 6) mx mb mts (in_X1_read_X1) mo hK zgw 1 wRX_1 rfl 1 (by decide) (mts _ (List.mem_of_getElem? (i := 6) rfl)) (fun _ h9 => h9) rfl dX1_read_72 ?_
          refine z_iload_n mx mb dX1_read_75 rfl 2 rfl ?_
          refine z_top (show x1 = (i : Int) from by exact e3) ?_
          refine z_iald mx mb hK zgw 3 0 wRX_3 rfl (by decide) (by omega) dX1_read_76 ?_
          refine z_top (show ((uc (uc (uc Ri 2 (zu (Ri 2) (i : Int) ((x (2 * (i : Int))) - 48))) 3 (zu ((uc Ri 2 (zu (Ri 2) (i : Int) ((x (2 * (i : Int))) - 48))) 3) (i : Int) (kindBy (x (2 * (i : Int) + 1))))) 4 (zu ((uc (uc Ri 2 (zu (Ri 2) (i : Int) ((x (2 * (i : Int))) - 48))) 3 (zu ((uc Ri 2 (zu (Ri 2) (i : Int) ((x (2 * (i : Int))) - 48))) 3) (i : Int) (kindBy (x (2 * (i : Int) + 1))))) 4) (i : Int) (Ri 1 1))) 3) (i : Int) = kindBy (x (2 * (i : Int) + 1)) from by exact zu_s _ _ _) ?_
          refine z_iconst mx mb dX1_read_77 ?_
          refine z_icmp_ne (tgt := 101) mx mb (by omega) (by omega) dX1_read_78 (by decide) (fun c78 => ?_) (fun c78 => ?_)
          · skip
            refine z_iinc mx mb dX1_read_101 2 rfl (by decide) [(2, .int (iZ (x1 + 1))), (0, .ref (a 1)), (1, .ref (b 0))] rfl ?_
            refine z_goto (tgt := 17) mx mb dX1_read_104 (by decide) ?_
            refine z_lv [1, 2, 0] rfl ?_
            exact ih (i + 1) _ _ (by omega) (by omega) (by omega) (by exact Rd_step hd rfl rfl rfl (Or.inr ⟨c78, rfl, rfl⟩)) (by exact r10) (by intro j hj; first | (rw [uc_n (by omega), uc_n (by omega), uc_n (by omega), uc_n (by omega), uc_n (by omega)]; exact ho j hj) | (rw [uc_n (by omega), uc_n (by omega), uc_n (by omega)]; exact ho j hj))
          · skip
            have b7 : brs x (2 * i) ≤ 7 := read_b7 hf9 (show i < n by omega) c78
            refine z_aload_n mx mb dX1_read_81 rfl 0 rfl ?_
            refine z_get (C := RX1) (T := TX1) (N := 6) mx mb mts (in_X1_read_X1) mo hK zgw 1 wRX_1 rfl 3 (by decide) (mts _ (List.mem_of_getElem? (i := 8) rfl)) (fun _ h9 => h9) rfl dX1_read_82 ?_
            refine z_aload_n mx mb dX1_read_85 rfl 0 rfl ?_
            refine z_get (C := RX1) (T := TX1) (N := 6) mx mb mts (in_X1_read_X1) mo hK zgw 1 wRX_1 rfl 5 (by decide) (mts _ (List.mem_of_getElem? (i := 3) rfl)) (fun _ h9 => h9) rfl dX1_read_86 ?_
            refine z_top (show (uc (uc (uc Ri 2 (zu (Ri 2) (i : Int) ((x (2 * (i : Int))) - 48))) 3 (zu ((uc Ri 2 (zu (Ri 2) (i : Int) ((x (2 * (i : Int))) - 48))) 3) (i : Int) (kindBy (x (2 * (i : Int) + 1))))) 4 (zu ((uc (uc Ri 2 (zu (Ri 2) (i : Int) ((x (2 * (i : Int))) - 48))) 3 (zu ((uc Ri 2 (zu (Ri 2) (i : Int) ((x (2 * (i : Int))) - 48))) 3) (i : Int) (kindBy (x (2 * (i : Int) + 1))))) 4) (i : Int) (Ri 1 1))) 1 1 = Ri 1 1 from by rfl) ?_
            refine z_iload_n mx mb dX1_read_89 rfl 2 rfl ?_
            refine z_top (show x1 = (i : Int) from by exact e3) ?_
            refine z_iast mx mb hK 5 0 wRX_5 rfl (by decide) (by omega) dX1_read_90 (wRX y a (uc (uc (uc (uc Ri 2 (zu (Ri 2) (i : Int) ((x (2 * (i : Int))) - 48))) 3 (zu ((uc Ri 2 (zu (Ri 2) (i : Int) ((x (2 * (i : Int))) - 48))) 3) (i : Int) (kindBy (x (2 * (i : Int) + 1))))) 4 (zu ((uc (uc Ri 2 (zu (Ri 2) (i : Int) ((x (2 * (i : Int))) - 48))) 3 (zu ((uc Ri 2 (zu (Ri 2) (i : Int) ((x (2 * (i : Int))) - 48))) 3) (i : Int) (kindBy (x (2 * (i : Int) + 1))))) 4) (i : Int) (Ri 1 1))) 5 (zu ((uc (uc (uc Ri 2 (zu (Ri 2) (i : Int) ((x (2 * (i : Int))) - 48))) 3 (zu ((uc Ri 2 (zu (Ri 2) (i : Int) ((x (2 * (i : Int))) - 48))) 3) (i : Int) (kindBy (x (2 * (i : Int) + 1))))) 4 (zu ((uc (uc Ri 2 (zu (Ri 2) (i : Int) ((x (2 * (i : Int))) - 48))) 3 (zu ((uc Ri 2 (zu (Ri 2) (i : Int) ((x (2 * (i : Int))) - 48))) 3) (i : Int) (kindBy (x (2 * (i : Int) + 1))))) 4) (i : Int) (Ri 1 1))) 5) (Ri 1 1) (i : Int))) b x ln) wRX_s5 ?_
            refine z_aload_n mx mb dX1_read_91 rfl 0 rfl ?_
            refine z_dup mx mb dX1_read_92 rfl ?_
            refine z_get (C := RX1) (T := TX1) (N := 6) mx mb mts (in_X1_read_X1) mo hK zgw 1 wRX_1 rfl 5 (by decide) (mts _ (List.mem_of_getElem? (i := 3) rfl)) (fun _ h9 => h9) rfl dX1_read_93 ?_
            refine z_top (show (uc (uc (uc (uc Ri 2 (zu (Ri 2) (i : Int) ((x (2 * (i : Int))) - 48))) 3 (zu ((uc Ri 2 (zu (Ri 2) (i : Int) ((x (2 * (i : Int))) - 48))) 3) (i : Int) (kindBy (x (2 * (i : Int) + 1))))) 4 (zu ((uc (uc Ri 2 (zu (Ri 2) (i : Int) ((x (2 * (i : Int))) - 48))) 3 (zu ((uc Ri 2 (zu (Ri 2) (i : Int) ((x (2 * (i : Int))) - 48))) 3) (i : Int) (kindBy (x (2 * (i : Int) + 1))))) 4) (i : Int) (Ri 1 1))) 5 (zu ((uc (uc (uc Ri 2 (zu (Ri 2) (i : Int) ((x (2 * (i : Int))) - 48))) 3 (zu ((uc Ri 2 (zu (Ri 2) (i : Int) ((x (2 * (i : Int))) - 48))) 3) (i : Int) (kindBy (x (2 * (i : Int) + 1))))) 4 (zu ((uc (uc Ri 2 (zu (Ri 2) (i : Int) ((x (2 * (i : Int))) - 48))) 3 (zu ((uc Ri 2 (zu (Ri 2) (i : Int) ((x (2 * (i : Int))) - 48))) 3) (i : Int) (kindBy (x (2 * (i : Int) + 1))))) 4) (i : Int) (Ri 1 1))) 5) (Ri 1 1) (i : Int))) 1 1 = Ri 1 1 from by rfl) ?_
            refine z_iconst mx mb dX1_read_96 ?_
            refine z_iadd mx mb dX1_read_97 ?_
            refine z_put (ty := .int) (C := RX1) (T := TX1) (N := 6) mx mb mts (in_X1_read_X1) tyX1_ok nmX1 mo hK 1 wRX_1 rfl 5 (by decide) (mts _ (List.mem_of_getElem? (i := 3) rfl)) (fun _ h9 => h9) rfl (by decide +kernel) rfl rfl (Nat.le_of_ble_eq_true rfl) dX1_read_98 (wRX y a (uc (uc (uc (uc (uc Ri 2 (zu (Ri 2) (i : Int) ((x (2 * (i : Int))) - 48))) 3 (zu ((uc Ri 2 (zu (Ri 2) (i : Int) ((x (2 * (i : Int))) - 48))) 3) (i : Int) (kindBy (x (2 * (i : Int) + 1))))) 4 (zu ((uc (uc Ri 2 (zu (Ri 2) (i : Int) ((x (2 * (i : Int))) - 48))) 3 (zu ((uc Ri 2 (zu (Ri 2) (i : Int) ((x (2 * (i : Int))) - 48))) 3) (i : Int) (kindBy (x (2 * (i : Int) + 1))))) 4) (i : Int) (Ri 1 1))) 5 (zu ((uc (uc (uc Ri 2 (zu (Ri 2) (i : Int) ((x (2 * (i : Int))) - 48))) 3 (zu ((uc Ri 2 (zu (Ri 2) (i : Int) ((x (2 * (i : Int))) - 48))) 3) (i : Int) (kindBy (x (2 * (i : Int) + 1))))) 4 (zu ((uc (uc Ri 2 (zu (Ri 2) (i : Int) ((x (2 * (i : Int))) - 48))) 3 (zu ((uc Ri 2 (zu (Ri 2) (i : Int) ((x (2 * (i : Int))) - 48))) 3) (i : Int) (kindBy (x (2 * (i : Int) + 1))))) 4) (i : Int) (Ri 1 1))) 5) (Ri 1 1) (i : Int))) 1 (zu ((uc (uc (uc (uc Ri 2 (zu (Ri 2) (i : Int) ((x (2 * (i : Int))) - 48))) 3 (zu ((uc Ri 2 (zu (Ri 2) (i : Int) ((x (2 * (i : Int))) - 48))) 3) (i : Int) (kindBy (x (2 * (i : Int) + 1))))) 4 (zu ((uc (uc Ri 2 (zu (Ri 2) (i : Int) ((x (2 * (i : Int))) - 48))) 3 (zu ((uc Ri 2 (zu (Ri 2) (i : Int) ((x (2 * (i : Int))) - 48))) 3) (i : Int) (kindBy (x (2 * (i : Int) + 1))))) 4) (i : Int) (Ri 1 1))) 5 (zu ((uc (uc (uc Ri 2 (zu (Ri 2) (i : Int) ((x (2 * (i : Int))) - 48))) 3 (zu ((uc Ri 2 (zu (Ri 2) (i : Int) ((x (2 * (i : Int))) - 48))) 3) (i : Int) (kindBy (x (2 * (i : Int) + 1))))) 4 (zu ((uc (uc Ri 2 (zu (Ri 2) (i : Int) ((x (2 * (i : Int))) - 48))) 3 (zu ((uc Ri 2 (zu (Ri 2) (i : Int) ((x (2 * (i : Int))) - 48))) 3) (i : Int) (kindBy (x (2 * (i : Int) + 1))))) 4) (i : Int) (Ri 1 1))) 5) (Ri 1 1) (i : Int))) 1) 1 ((Ri 1 1) + 1))) b x ln) wRX_s1_1 ?_
            refine z_iinc mx mb dX1_read_101 2 rfl (by decide) [(2, .int (iZ (x1 + 1))), (0, .ref (a 1)), (1, .ref (b 0))] rfl ?_
            refine z_goto (tgt := 17) mx mb dX1_read_104 (by decide) ?_
            refine z_lv [1, 2, 0] rfl ?_
            exact ih (i + 1) _ _ (by omega) (by omega) (by omega) (by exact Rd_step hd rfl rfl rfl (Or.inl ⟨c78, rfl, rfl⟩)) (by exact r10) (by intro j hj; first | (rw [uc_n (by omega), uc_n (by omega), uc_n (by omega), uc_n (by omega), uc_n (by omega)]; exact ho j hj) | (rw [uc_n (by omega), uc_n (by omega), uc_n (by omega)]; exact ho j hj))
    refine z_lv [1, 2, 0] rfl ?_
    exact lp17 _ 0 (uc (uc R 1 (zu (R 1) 0 (ln / 2))) 1 (zu ((uc R 1 (zu (R 1) 0 (ln / 2))) 1) 1 0)) 0 (Nat.lt_succ_self _) (by omega) (by rfl) (by exact ⟨rfl, fun c hc => absurd hc (by omega)⟩) (by show ln / 2 = (n : Int); omega) (by intro j hj; rw [uc_n (by omega), uc_n (by omega)])
  subst hQ
  subst hw0
  exact hstart

theorem in_X0_begin_X0 : ∀ w ∈ wsX00, w ∈ wsX0_begin := by decide +kernel
set_option maxRecDepth 100000 in
set_option maxHeartbeats 4000000 in
theorem c_X0_begin (l : Launch) (D : va_G) (sz : Nat) (y : Nat → ClassId) (a : Nat → Nat) (R : Nat → Int → Int) (b : Nat → Nat) (x : Int → Int) (ln : Int) (n : Nat) (f : Int → Int) (hn9 : (n : Int) = ln / 2 ∧ 4 ≤ n ∧ n ≤ 30 ∧ 0 ≤ ln) (hf9 : fst' x (2 * n) = -1) (hb2 : 2 ≤ brs x (2 * n)) (htx : ∀ k : Int, 0 ≤ k → k < 90 → 0 ≤ x k ∧ x k ≤ 127) (hs9 : R 7 0 = f 4 ∧ R 7 1 = f 5 ∧ R 7 2 = f 6 ∧ R 7 3 = f 7) : Met l yX0_begin wsX0_begin ({ frames := 2, cells := 0, slots := 0, locals := 43 } : Room) (zPw D vwCl (zT y) (wRX y a R b x ln) sz [.ref (a 0), .ref (b 0)]) (va_Qv (fun R' : Nat → Int → Int => Rel (parsed f x n) R') (zB D vwCl (zT y) (wRX y a R b x ln) sz (fun R' : Nat → Int → Int => wRX y a R' b x ln)) (va_A (wRX y a R b x ln) sz)) 0 0 (va_A (wRX y a R b x ln) sz) := by
  refine z_headW (cc := cX0_begin) (maxL := 3) (ret := none) [(0, .ref (a 0)), (1, .ref (b 0))] rfl (Nat.le_of_ble_eq_true rfl) (by decide +kernel) rfl ?_
  intro pp ee ss mm below meth cd mx mb mr mml mo mts mlk hK hname hsz hA
  generalize ([.ref (a 0), .ref (b 0)] : List Value).toArray = args at mts ⊢
  obtain ⟨wst, hw0⟩ : ∃ wst, wst = wRX y a R b x ln := ⟨_, rfl⟩
  have hA : ∀ q, ss.heap.size ≤ q → va_A wst sz q := by rw [hw0]; exact hA
  obtain ⟨Q, hQ⟩ : ∃ Q, Q = MQ below (va_Qv (fun R' : Nat → Int → Int => Rel (parsed f x n) R') (zB D vwCl (zT y) wst sz (fun R' : Nat → Int → Int => wRX y a R' b x ln)) (va_A wst sz)) args ss 0 0 (va_A wst sz) := ⟨_, rfl⟩
  have hstart : Gz pp l ee ({ frames := 2, cells := 0, slots := 0, locals := 43 } : Room) ss mm args below meth cd 3 0 0 Q (Zw D vwCl (va_A wst sz) ss (wRX y a R b x ln)) 0 [(0, .ref (a 0)), (1, .ref (b 0))] [] := by
    refine z_aload_n mx mb dX0_begin_0 rfl 0 rfl ?_
    refine z_get (C := RX0) (T := TX0) (N := 9) mx mb mts (in_X0_begin_X0) mo hK zgw 0 wRX_0 rfl 0 (by decide) (mts _ (List.mem_of_getElem? (i := 1) rfl)) (fun _ h9 => h9) rfl dX0_begin_1 ?_
    refine z_aload_n mx mb dX0_begin_4 rfl 1 rfl ?_
    refine z_callV0 (As := [.ref (b 0)]) (rest := []) ⟨mx, mb, mml, mo, mts⟩ hK hA (fun sz => c_X1_read l D sz y a R b x ln n (by assumption) (by assumption) (by assumption) (by assumption)) (cwV 1 mts gX0_begin_X1_read rfl rfl rfl (by decide +kernel) ⟨Nat.le_of_ble_eq_true rfl, Nat.le_of_ble_eq_true rfl⟩) 1 wRX_1 rfl rfl rfl rfl (Nat.le_of_ble_eq_true rfl) ⟨Nat.zero_le _, Nat.zero_le _⟩ dX0_begin_5 (fun u5 hu5 => ?_)
    have hu5 : u5 1 0 = (n : Int) ∧ u5 1 1 = brs x (2 * n) ∧ (∀ c : Nat, c < n → (u5 2 (c : Int) = x (2 * (c : Int)) - 48 ∧ u5 3 (c : Int) = kindBy (x (2 * (c : Int) + 1)) ∧ u5 4 (c : Int) = (if brs x (2 * c) = brs x (2 * n) then 0 else brs x (2 * c)) ∧ (kindBy (x (2 * (c : Int) + 1)) = 2 → u5 5 (brs x (2 * c)) = (c : Int)))) ∧ (∀ j : Nat, j = 0 ∨ 6 ≤ j → u5 j = R j) := hu5
    show Gz pp l ee ({ frames := 2, cells := 0, slots := 0, locals := 43 } : Room) ss mm args below meth cd 3 0 0 Q (Zw D vwCl (va_A wst sz) ss (wRX y a u5 b x ln)) 8 [(0, .ref (a 0)), (1, .ref (b 0))] []
    obtain ⟨p1, p2, p3, p4⟩ := hu5
    have hs5 : u5 7 0 = f 4 ∧ u5 7 1 = f 5 ∧ u5 7 2 = f 6 ∧ u5 7 3 = f 7 := (by rw [p4 7 (by omega)]; exact hs9)
    refine z_aload_n mx mb dX0_begin_8 rfl 0 rfl ?_
    refine z_iconst mx mb dX0_begin_9 ?_
    refine z_put (ty := .int) (C := RX0) (T := TX0) (N := 9) mx mb mts (in_X0_begin_X0) tyX0_ok nmX0 mo hK 0 wRX_0 rfl 6 (by decide) (mts _ (List.mem_of_getElem? (i := 2) rfl)) (fun _ h9 => h9) rfl (by decide +kernel) rfl rfl (Nat.le_of_ble_eq_true rfl) dX0_begin_10 (wRX y a (uc u5 0 (zu (u5 0) 0 0)) b x ln) wRX_s0_0 ?_
    refine z_aload_n mx mb dX0_begin_13 rfl 0 rfl ?_
    refine z_iconst mx mb dX0_begin_14 ?_
    refine z_put (ty := .int) (C := RX0) (T := TX0) (N := 9) mx mb mts (in_X0_begin_X0) tyX0_ok nmX0 mo hK 0 wRX_0 rfl 7 (by decide) (mts _ (List.mem_of_getElem? (i := 3) rfl)) (fun _ h9 => h9) rfl (by decide +kernel) rfl rfl (Nat.le_of_ble_eq_true rfl) dX0_begin_15 (wRX y a (uc (uc u5 0 (zu (u5 0) 0 0)) 0 (zu ((uc u5 0 (zu (u5 0) 0 0)) 0) 1 0)) b x ln) wRX_s0_1 ?_
    refine z_aload_n mx mb dX0_begin_18 rfl 0 rfl ?_
    refine z_iconst mx mb dX0_begin_19 ?_
    refine z_put (ty := .int) (C := RX0) (T := TX0) (N := 9) mx mb mts (in_X0_begin_X0) tyX0_ok nmX0 mo hK 0 wRX_0 rfl 8 (by decide) (mts _ (List.mem_of_getElem? (i := 4) rfl)) (fun _ h9 => h9) rfl (by decide +kernel) rfl rfl (Nat.le_of_ble_eq_true rfl) dX0_begin_20 (wRX y a (uc (uc (uc u5 0 (zu (u5 0) 0 0)) 0 (zu ((uc u5 0 (zu (u5 0) 0 0)) 0) 1 0)) 0 (zu ((uc (uc u5 0 (zu (u5 0) 0 0)) 0 (zu ((uc u5 0 (zu (u5 0) 0 0)) 0) 1 0)) 0) 2 0)) b x ln) wRX_s0_2 ?_
    refine z_iconst mx mb dX0_begin_23 ?_
    refine z_istore_n mx mb dX0_begin_24 rfl (by decide) [(2, .int (iZ 0)), (0, .ref (a 0)), (1, .ref (b 0))] rfl ?_
    have lp25 : ∀ (nn : Nat) (i : Nat) (g : Int → Int) (x2 : Int), 8 - i < nn → (i ≤ 8) → (x2 = (i : Int)) → (∀ k : Nat, k < i → g (k : Int) = 0) → Gz pp l ee ({ frames := 2, cells := 0, slots := 0, locals := 43 } : Room) ss mm args below meth cd 3 0 0 Q (Zw D vwCl (va_A wst sz) ss (wRX y a (uc (uc (uc (uc u5 0 (zu (u5 0) 0 0)) 0 (zu ((uc u5 0 (zu (u5 0) 0 0)) 0) 1 0)) 0 (zu ((uc (uc u5 0 (zu (u5 0) 0 0)) 0 (zu ((uc u5 0 (zu (u5 0) 0 0)) 0) 1 0)) 0) 2 0)) 12 g) b x ln)) 25 [(0, .ref (a 0)), (1, .ref (b 0)), (2, .int (iZ x2))] [] := by
      intro nn
      induction nn with
      | zero => exact fun i g x2 hm => absurd hm (Nat.not_lt_zero _)
      | succ nn ih =>
        intro i g x2 hm hi e3 hg
        refine z_iload_n mx mb dX0_begin_25 rfl 2 rfl ?_
        refine z_bipush mx mb dX0_begin_26 (by decide +kernel) ?_
        refine z_icmp_ge (tgt := 44) mx mb (by omega) (by omega) dX0_begin_28 (by decide) (fun c28 => ?_) (fun c28 => ?_)
        · skip
          rw [hQ]
          exact z_retV mx mb mr mlk hK (uc (uc (uc (uc u5 0 (zu (u5 0) 0 0)) 0 (zu ((uc u5 0 (zu (u5 0) 0 0)) 0) 1 0)) 0 (zu ((uc (uc u5 0 (zu (u5 0) 0 0)) 0 (zu ((uc u5 0 (zu (u5 0) 0 0)) 0) 1 0)) 0) 2 0)) 12 g) (by show Rel _ _; exact rel_parsed hn9.2.2.1 hf9 hn9.2.1 hb2 p1 p2 ⟨rfl, rfl, rfl⟩ p3 (fun k k0 k1 => (by obtain ⟨m, rfl⟩ : ∃ m : Nat, k = (m : Int) := ⟨k.toNat, by omega⟩; exact hg m (by omega))) hs5) rfl dX0_begin_44
        · skip
          refine z_aload_n mx mb dX0_begin_31 rfl 0 rfl ?_
          refine z_get (C := RX0) (T := TX0) (N := 9) mx mb mts (in_X0_begin_X0) mo hK zgw 0 wRX_0 rfl 3 (by decide) (mts _ (List.mem_of_getElem? (i := 5) rfl)) (fun _ h9 => h9) rfl dX0_begin_32 ?_
          refine z_iload_n mx mb dX0_begin_35 rfl 2 rfl ?_
          refine z_top (show x2 = (i : Int) from by exact e3) ?_
          refine z_iconst mx mb dX0_begin_36 ?_
          refine z_iast mx mb hK 12 0 wRX_12 rfl (by decide) (by omega) dX0_begin_37 (wRX y a (uc (uc (uc (uc (uc u5 0 (zu (u5 0) 0 0)) 0 (zu ((uc u5 0 (zu (u5 0) 0 0)) 0) 1 0)) 0 (zu ((uc (uc u5 0 (zu (u5 0) 0 0)) 0 (zu ((uc u5 0 (zu (u5 0) 0 0)) 0) 1 0)) 0) 2 0)) 12 g) 12 (zu ((uc (uc (uc (uc u5 0 (zu (u5 0) 0 0)) 0 (zu ((uc u5 0 (zu (u5 0) 0 0)) 0) 1 0)) 0 (zu ((uc (uc u5 0 (zu (u5 0) 0 0)) 0 (zu ((uc u5 0 (zu (u5 0) 0 0)) 0) 1 0)) 0) 2 0)) 12 g) 12) (i : Int) 0)) b x ln) wRX_s12 ?_
          refine z_iinc mx mb dX0_begin_38 2 rfl (by decide) [(2, .int (iZ (x2 + 1))), (0, .ref (a 0)), (1, .ref (b 0))] rfl ?_
          refine z_goto (tgt := 25) mx mb dX0_begin_41 (by decide) ?_
          refine z_lv [1, 2, 0] rfl ?_
          exact ih (i + 1) _ _ (by omega) (by omega) (by omega) (by intro k hk; show zu g (i : Int) 0 (k : Int) = 0; by_cases z : k = i; (rw [z, zu_s]); (rw [zu_n (by omega)]; exact hg k (by omega)))
    refine z_lv [1, 2, 0] rfl ?_
    exact lp25 _ 0 (u5 12) 0 (Nat.lt_succ_self _) (by omega) (by rfl) (by intro k hk; omega)
  subst hQ
  subst hw0
  exact hstart
