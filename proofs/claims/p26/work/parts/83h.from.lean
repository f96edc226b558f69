theorem c_L_mixed (l : Launch) (D : va_G) (y : Nat → ClassId) (u v : Int) : Met l yL_mixed wsL_mixed ({ frames := 0, cells := 0, slots := 0, locals := 0 } : Room) (zPp D vwCl (zT y) [] [.long (lZ u), .long (lZ v)]) (vp_Sl (fun r => r = lZ (31 * u + v))) 0 0 (fun _ => False) := by
  refine z_headP (cc := cL_mixed) (maxL := 4) (ret := some .long) [(0, .long (lZ u)), (2, .long (lZ v))] rfl (Nat.le_of_ble_eq_true rfl) (by decide +kernel) rfl ?_
  intro pp ee ss mm below meth cd mx mb mr mml mo mts mlk hK hP
  generalize ([.long (lZ u), .long (lZ v)] : List Value).toArray = args at mts ⊢
  refine z_ldc2 (z := 31) mx mb mo (mts _ (List.mem_of_getElem? (i := 1) rfl)) (by decide +kernel) dL_mixed_0 ?_
  refine z_lload_n mx mb dL_mixed_3 rfl 0 rfl ?_
  refine z_lmul mx mb dL_mixed_4 ?_
  refine z_lload_n mx mb dL_mixed_5 rfl 1 rfl ?_
  refine z_ladd mx mb dL_mixed_6 ?_
  exact z_lretP mx mb mr mlk rfl dL_mixed_7

theorem all_lo {st : CSt} {w : Int} (h : 0 ≤ w ∧ w < 10) : allV st w = st.1 w := by
  unfold allV
  rw [v3_0 (by unfold thOne; rw [if_pos (by omega)])]
  unfold valueOf
  rw [if_pos h.2]
theorem snt_in {st : CSt} {i w : Int} (h : 0 ≤ i ∧ i < st.1 10) (hw : 0 ≤ w ∧ w ≤ 1) : sntV st i w = st.1 (111 + 2 * (st.1 10 - 1 - i) + w) := by
  unfold sntV
  rw [v3_0 (by unfold thIn; rw [if_pos (by omega), if_pos (by omega)])]
theorem snt_out {st : CSt} {i w : Int} (h : ¬ (0 ≤ i ∧ i < st.1 10)) : sntV st i w = -3001 := by
  unfold sntV
  rw [v3_1 (by unfold thIn; rw [if_neg (by omega)])]
theorem snt_rng {st : CSt} {i : Int} (h : Lp st.1) : -3001 ≤ sntV st i 0 ∧ sntV st i 0 ≤ 200000 ∧ (0 ≤ sntV st i 0 ↔ (0 ≤ i ∧ i < st.1 10)) := by
  by_cases q : 0 ≤ i ∧ i < st.1 10
  · have k := h (st.1 10 - 1 - i) (by omega) (by omega)
    rw [snt_in q (by omega), Int.add_zero]
    omega
  · rw [snt_out q]
    omega
/-- what 'from' makes of a row -/
def fromH (f : Int → Int) (h : Int) : Int := hmx (dgL f (dgT f (dgB f (dgC f (hgo (fun w => valueOf f (w : Int)) h 12))))) (toValley f 2000)
theorem fromH_dg (f : Int → Int) (ln sm : Int) : hmx (fromH f (hmx 3581 ln)) sm = dg f ln sm := rfl

set_option maxRecDepth 100000 in
set_option maxHeartbeats 8000000 in
theorem c_L_from (l : Launch) (hl0 : l.stackTraces = false) (D : va_G) (sz : Nat) (y : Nat → ClassId) (o : Nat → Nat) (a : Nat → Nat → Nat) (S : Nat → Nat → Int → Int) (tb : Nat → Nat) (st : CSt) (h : Int) (hT : Tie st S) : Met l yL_from wsL_from ({ frames := 9, cells := 500, slots := 3000, locals := 157 } : Room) (zPe D vwCl (zT y) (wC y o a S tb st) sz [.ref (o 0), .long (lZ h)]) (va_Ql (fun (r : Int64) (u : (Nat → Nat → Nat) × (Nat → Nat → Int → Int)) => r = lZ (fromH st.1 h) ∧ Tie st u.2) (zB D vwCl (zT y) (wC y o a S tb st) sz (fun u : (Nat → Nat → Nat) × (Nat → Nat → Int → Int) => wC y o u.1 u.2 tb st)) (va_A (wC y o a S tb st) sz)) 500 3000 (va_A (wC y o a S tb st) sz) := by
  refine z_headE (cc := cL_from) (maxL := 7) (ret := (some .long)) [(0, .ref (o 0)), (1, .long (lZ h))] rfl (Nat.le_of_ble_eq_true rfl) (by decide +kernel) rfl ?_
  intro pp ee ss mm below meth cd mx mb mr mml mo mts mlk hK hname hsz hA hE
  generalize ([.ref (o 0), .long (lZ h)] : List Value).toArray = args at mts ⊢
  obtain ⟨wst, hw0⟩ : ∃ wst, wst = wC y o a S tb st := ⟨_, rfl⟩
  replace hE : zE (va_A wst sz) ss ss.heap := by rw [hw0]; exact hE
  replace hA : ∀ q, ss.heap.size ≤ q → va_A wst sz q := by rw [hw0]; exact hA
  obtain ⟨Q, hQ⟩ : ∃ Q, Q = MQ below (va_Ql (fun (r : Int64) (u : (Nat → Nat → Nat) × (Nat → Nat → Int → Int)) => r = lZ (fromH st.1 h) ∧ Tie st u.2) (zB D vwCl (zT y) wst sz (fun u : (Nat → Nat → Nat) × (Nat → Nat → Int → Int) => wC y o u.1 u.2 tb st)) (va_A wst sz)) args ss 500 3000 (va_A wst sz) := ⟨_, rfl⟩
  have hstart : Gz pp l ee ({ frames := 9, cells := 500, slots := 3000, locals := 157 } : Room) ss mm args below meth cd 7 0 0 Q (Zw D vwCl (va_A wst sz) ss (wC y o a S tb st)) 0 [(0, .ref (o 0)), (1, .long (lZ h))] [] := by
    obtain ⟨⟨hR, hI, kp, lp⟩, hsc, hTS, hl, htx⟩ := id hT
    obtain ⟨hW, hN, hT9⟩ := (Inv_Jy hI).f
    have w0 := hW.1; have w1 := hW.2.1; have w2 := hW.2.2.1
    have n10 := hN.2.2.2.2.2.2.2
    refine z_lload_n mx mb dL_from_0 rfl 1 rfl ?_
    refine z_lstore_n mx mb dL_from_1 rfl (by decide) [(3, .long (lZ h)), (0, .ref (o 0)), (1, .long (lZ h))] rfl ?_
    refine z_iconst mx mb dL_from_2 ?_
    refine z_istore mx mb dL_from_3 (by decide) [(5, .int (iZ 0)), (3, .long (lZ h)), (0, .ref (o 0)), (1, .long (lZ h))] rfl ?_
    have lp5 : ∀ (nn : Nat) (i1 : Nat) (x1 hx1 : Int) (a91 : Nat → Nat → Nat) (S91 : Nat → Nat → Int → Int) (k1 n1 : Nat), 12 - i1 < nn → (i1 ≤ 12) → (x1 = (i1 : Int)) → (hx1 = hgo (fun w => valueOf st.1 (w : Int)) h i1) → (k1 ≤ 0 + 1 * i1) → (n1 ≤ 6 * (0 + 1 * i1)) → (Tie st S91) → Gz pp l ee ({ frames := 9, cells := 500, slots := 3000, locals := 157 } : Room) ss mm args below meth cd 7 k1 n1 Q (Zw D vwCl (va_A wst sz) ss (wC y o a91 S91 tb st)) 5 [(0, .ref (o 0)), (1, .long (lZ h)), (3, .long (lZ hx1)), (5, .int (iZ x1))] [] := by
      intro nn
      induction nn with
      | zero => exact fun i1 x1 hx1 a91 S91 k1 n1 hm => absurd hm (Nat.not_lt_zero _)
      | succ nn ih5 =>
        intro i1 x1 hx1 a91 S91 k1 n1 hm h1i h1e h1h h1k h1n h1T
        refine z_iload mx mb dL_from_5 3 rfl ?_
        refine z_bipush mx mb dL_from_7 (by decide +kernel) ?_
        refine z_icmp_ge (tgt := 30) mx mb (by omega) (by omega) dL_from_9 (by decide) (fun c9 => ?_) (fun c9 => ?_)
        · skip
          have e1 : i1 = 12 := by omega
          refine z_iconst mx mb dL_from_30 ?_
          refine z_istore mx mb dL_from_31 (by decide) [(5, .int (iZ 0)), (0, .ref (o 0)), (1, .long (lZ h)), (3, .long (lZ hx1))] rfl ?_
          have lp33 : ∀ (nn : Nat) (i2 : Nat) (x2 hx2 : Int) (a92 : Nat → Nat → Nat) (S92 : Nat → Nat → Int → Int) (k2 n2 : Nat), 4 * (st.1 0).toNat - i2 < nn → ((i2 : Int) ≤ 4 * st.1 0) → (x2 = (i2 : Int)) → (hx2 = hgo (hCell st.1) (hgo (fun w => valueOf st.1 (w : Int)) h 12) i2) → (k2 ≤ 12 + 2 * i2) → (n2 ≤ 6 * (12 + 2 * i2)) → (Tie st S92) → Gz pp l ee ({ frames := 9, cells := 500, slots := 3000, locals := 157 } : Room) ss mm args below meth cd 7 k2 n2 Q (Zw D vwCl (va_A wst sz) ss (wC y o a92 S92 tb st)) 33 [(0, .ref (o 0)), (1, .long (lZ h)), (3, .long (lZ hx2)), (5, .int (iZ x2))] [] := by
            intro nn
            induction nn with
            | zero => exact fun i2 x2 hx2 a92 S92 k2 n2 hm => absurd hm (Nat.not_lt_zero _)
            | succ nn ih33 =>
              intro i2 x2 hx2 a92 S92 k2 n2 hm h2i h2e h2h h2k h2n h2T
              refine z_iload mx mb dL_from_33 3 rfl ?_
              refine z_iconst mx mb dL_from_35 ?_
              refine z_aload_n mx mb dL_from_36 rfl 0 rfl ?_
              refine z_iconst mx mb dL_from_37 ?_
              refine z_callSI (wa := []) (wc := (wC y o a92 S92 tb st)) (wb := []) (As := [.ref (o 0), .int (iZ 0)]) (rest := [.int (iZ 4), .int (iZ x2)]) ⟨mx, mb, mml, mo, mts⟩ hK hA hE (fun sz => c_L_all l hl0 D sz y o a92 S92 tb st 0 (by decide) h2T) (vx_cwSW 2 mts gL_from_L_all rfl rfl rfl (by decide +kernel) ⟨Nat.le_of_ble_eq_true rfl, Nat.le_of_ble_eq_true rfl⟩) (List.append_nil _).symm rfl rfl (Nat.le_of_ble_eq_true rfl) ⟨by show _ ≤ 500; omega, by show _ ≤ 3000; omega⟩ dL_from_38 (fun r38 u38 hu38 => ?_)
              rw [List.nil_append, List.append_nil]
              obtain ⟨a38, S38⟩ := u38
              obtain ⟨hr, hT38⟩ := hu38
              replace hT38 : Tie st S38 := hT38
              obtain rfl : r38 = iZ (st.1 0) := hr.trans (congrArg iZ (show allV st 0 = st.1 0 from by exact all_lo (by omega)))
              show Gz pp l ee ({ frames := 9, cells := 500, slots := 3000, locals := 157 } : Room) ss mm args below meth cd 7 (k2 + 1) (n2 + 6) Q (Zw D vwCl (va_A wst sz) ss (wC y o a38 S38 tb st)) 41 [(0, .ref (o 0)), (1, .long (lZ h)), (3, .long (lZ hx2)), (5, .int (iZ x2))] [.int (iZ (st.1 0)), .int (iZ 4), .int (iZ x2)]
              refine z_imul mx mb dL_from_41 ?_
              refine z_icmp_ge (tgt := 69) mx mb (by omega) (by omega) dL_from_42 (by decide) (fun c42 => ?_) (fun c42 => ?_)
              · skip
                have e2 : i2 = 4 * (st.1 0).toNat := by omega
                refine z_iconst mx mb dL_from_69 ?_
                refine z_istore mx mb dL_from_70 (by decide) [(5, .int (iZ 0)), (0, .ref (o 0)), (1, .long (lZ h)), (3, .long (lZ hx2))] rfl ?_
                have lp72 : ∀ (nn : Nat) (i3 : Nat) (x3 hx3 : Int) (a93 : Nat → Nat → Nat) (S93 : Nat → Nat → Int → Int) (k3 n3 : Nat), 5 * (st.1 1).toNat - i3 < nn → ((i3 : Int) ≤ 5 * st.1 1) → (x3 = (i3 : Int)) → (hx3 = hgo (hBlk st.1) (dgC st.1 (hgo (fun w => valueOf st.1 (w : Int)) h 12)) i3) → (k3 ≤ 253 + 2 * i3) → (n3 ≤ 6 * (253 + 2 * i3)) → (Tie st S93) → Gz pp l ee ({ frames := 9, cells := 500, slots := 3000, locals := 157 } : Room) ss mm args below meth cd 7 k3 n3 Q (Zw D vwCl (va_A wst sz) ss (wC y o a93 S93 tb st)) 72 [(0, .ref (o 0)), (1, .long (lZ h)), (3, .long (lZ hx3)), (5, .int (iZ x3))] [] := by
                  intro nn
                  induction nn with
                  | zero => exact fun i3 x3 hx3 a93 S93 k3 n3 hm => absurd hm (Nat.not_lt_zero _)
                  | succ nn ih72 =>
                    intro i3 x3 hx3 a93 S93 k3 n3 hm h3i h3e h3h h3k h3n h3T
                    refine z_iload mx mb dL_from_72 3 rfl ?_
                    refine z_iconst mx mb dL_from_74 ?_
                    refine z_aload_n mx mb dL_from_75 rfl 0 rfl ?_
                    refine z_iconst mx mb dL_from_76 ?_
                    refine z_callSI (wa := []) (wc := (wC y o a93 S93 tb st)) (wb := []) (As := [.ref (o 0), .int (iZ 1)]) (rest := [.int (iZ 5), .int (iZ x3)]) ⟨mx, mb, mml, mo, mts⟩ hK hA hE (fun sz => c_L_all l hl0 D sz y o a93 S93 tb st 1 (by decide) h3T) (vx_cwSW 2 mts gL_from_L_all rfl rfl rfl (by decide +kernel) ⟨Nat.le_of_ble_eq_true rfl, Nat.le_of_ble_eq_true rfl⟩) (List.append_nil _).symm rfl rfl (Nat.le_of_ble_eq_true rfl) ⟨by show _ ≤ 500; omega, by show _ ≤ 3000; omega⟩ dL_from_77 (fun r77 u77 hu77 => ?_)
                    rw [List.nil_append, List.append_nil]
                    obtain ⟨a77, S77⟩ := u77
                    obtain ⟨hr, hT77⟩ := hu77
                    replace hT77 : Tie st S77 := hT77
                    obtain rfl : r77 = iZ (st.1 1) := hr.trans (congrArg iZ (show allV st 1 = st.1 1 from by exact all_lo (by omega)))
                    show Gz pp l ee ({ frames := 9, cells := 500, slots := 3000, locals := 157 } : Room) ss mm args below meth cd 7 (k3 + 1) (n3 + 6) Q (Zw D vwCl (va_A wst sz) ss (wC y o a77 S77 tb st)) 80 [(0, .ref (o 0)), (1, .long (lZ h)), (3, .long (lZ hx3)), (5, .int (iZ x3))] [.int (iZ (st.1 1)), .int (iZ 5), .int (iZ x3)]
                    refine z_imul mx mb dL_from_80 ?_
                    refine z_icmp_ge (tgt := 108) mx mb (by omega) (by omega) dL_from_81 (by decide) (fun c81 => ?_) (fun c81 => ?_)
                    · skip
                      have e3 : i3 = 5 * (st.1 1).toNat := by omega
                      refine z_iconst mx mb dL_from_108 ?_
                      refine z_istore mx mb dL_from_109 (by decide) [(5, .int (iZ 0)), (0, .ref (o 0)), (1, .long (lZ h)), (3, .long (lZ hx3))] rfl ?_
                      have lp111 : ∀ (nn : Nat) (i4 : Nat) (x4 hx4 : Int) (a94 : Nat → Nat → Nat) (S94 : Nat → Nat → Int → Int) (k4 n4 : Nat), (st.1 2).toNat - i4 < nn → ((i4 : Int) ≤ st.1 2) → (x4 = (i4 : Int)) → (hx4 = hTr st.1 (dgB st.1 (dgC st.1 (hgo (fun w => valueOf st.1 (w : Int)) h 12))) i4) → (k4 ≤ 334 + 12 * i4) → (n4 ≤ 6 * (334 + 12 * i4)) → (Tie st S94) → Gz pp l ee ({ frames := 9, cells := 500, slots := 3000, locals := 157 } : Room) ss mm args below meth cd 7 k4 n4 Q (Zw D vwCl (va_A wst sz) ss (wC y o a94 S94 tb st)) 111 [(0, .ref (o 0)), (1, .long (lZ h)), (3, .long (lZ hx4)), (5, .int (iZ x4))] [] := by
                        intro nn
                        induction nn with
                        | zero => exact fun i4 x4 hx4 a94 S94 k4 n4 hm => absurd hm (Nat.not_lt_zero _)
                        | succ nn ih111 =>
                          intro i4 x4 hx4 a94 S94 k4 n4 hm h4i h4e h4h h4k h4n h4T
                          refine z_iload mx mb dL_from_111 3 rfl ?_
                          refine z_aload_n mx mb dL_from_113 rfl 0 rfl ?_
                          refine z_iconst mx mb dL_from_114 ?_
                          refine z_callSI (wa := []) (wc := (wC y o a94 S94 tb st)) (wb := []) (As := [.ref (o 0), .int (iZ 2)]) (rest := [.int (iZ x4)]) ⟨mx, mb, mml, mo, mts⟩ hK hA hE (fun sz => c_L_all l hl0 D sz y o a94 S94 tb st 2 (by decide) h4T) (vx_cwSW 2 mts gL_from_L_all rfl rfl rfl (by decide +kernel) ⟨Nat.le_of_ble_eq_true rfl, Nat.le_of_ble_eq_true rfl⟩) (List.append_nil _).symm rfl rfl (Nat.le_of_ble_eq_true rfl) ⟨by show _ ≤ 500; omega, by show _ ≤ 3000; omega⟩ dL_from_115 (fun r115 u115 hu115 => ?_)
                          rw [List.nil_append, List.append_nil]
                          obtain ⟨a115, S115⟩ := u115
                          obtain ⟨hr, hT115⟩ := hu115
                          replace hT115 : Tie st S115 := hT115
                          obtain rfl : r115 = iZ (st.1 2) := hr.trans (congrArg iZ (show allV st 2 = st.1 2 from by exact all_lo (by omega)))
                          show Gz pp l ee ({ frames := 9, cells := 500, slots := 3000, locals := 157 } : Room) ss mm args below meth cd 7 (k4 + 1) (n4 + 6) Q (Zw D vwCl (va_A wst sz) ss (wC y o a115 S115 tb st)) 118 [(0, .ref (o 0)), (1, .long (lZ h)), (3, .long (lZ hx4)), (5, .int (iZ x4))] [.int (iZ (st.1 2)), .int (iZ x4)]
                          refine z_icmp_ge (tgt := 169) mx mb (by omega) (by omega) dL_from_118 (by decide) (fun c118 => ?_) (fun c118 => ?_)
                          · skip
                            have e4 : i4 = (st.1 2).toNat := by omega
                            refine z_iconst mx mb dL_from_169 ?_
                            refine z_istore mx mb dL_from_170 (by decide) [(5, .int (iZ 0)), (0, .ref (o 0)), (1, .long (lZ h)), (3, .long (lZ hx4))] rfl ?_
                            have lp172 : ∀ (nn : Nat) (i6 : Nat) (x6 hx6 : Int) (a96 : Nat → Nat → Nat) (S96 : Nat → Nat → Int → Int) (k6 n6 : Nat), 30 - i6 < nn → ((i6 : Int) ≤ st.1 10) → (x6 = (i6 : Int)) → (hx6 = hgo (hLog st.1) (dgT st.1 (dgB st.1 (dgC st.1 (hgo (fun w => valueOf st.1 (w : Int)) h 12)))) (2 * i6)) → (k6 ≤ 383 + 3 * i6) → (n6 ≤ 6 * (383 + 3 * i6)) → (Tie st S96) → Gz pp l ee ({ frames := 9, cells := 500, slots := 3000, locals := 157 } : Room) ss mm args below meth cd 7 k6 n6 Q (Zw D vwCl (va_A wst sz) ss (wC y o a96 S96 tb st)) 172 [(0, .ref (o 0)), (1, .long (lZ h)), (3, .long (lZ hx6)), (5, .int (iZ x6))] [] := by
                              intro nn
                              induction nn with
                              | zero => exact fun i6 x6 hx6 a96 S96 k6 n6 hm => absurd hm (Nat.not_lt_zero _)
                              | succ nn ih172 =>
                                intro i6 x6 hx6 a96 S96 k6 n6 hm h6i h6e h6h h6k h6n h6T
                                refine z_iload mx mb dL_from_172 3 rfl ?_
                                refine z_bipush mx mb dL_from_174 (by decide +kernel) ?_
                                refine z_icmp_ge (tgt := 219) mx mb (by omega) (by omega) dL_from_176 (by decide) (fun c176 => ?_) (fun c176 => ?_)
                                · skip
                                  have e6 : i6 = (st.1 10).toNat := by omega
                                  refine z_lload_n mx mb dL_from_219 rfl 2 rfl ?_
                                  refine z_aload_n mx mb dL_from_220 rfl 0 rfl ?_
                                  refine z_callI (wa := []) (wc := (wC y o a96 S96 tb st)) (wb := []) (As := []) (rest := [.long (lZ hx6)]) ⟨mx, mb, mml, mo, mts⟩ hK hA (fun sz => c_X4_ticksToValley l D sz y o a96 S96 tb st.2.2.2.1 st.2.2.2.2 st.2.2.1 st.1 h6T.1.1 h6T.1.2.1 h6T.1.2.2.1) (cwV 0 mts gL_from_X4_ticksToValley rfl rfl rfl (by decide +kernel) ⟨Nat.le_of_ble_eq_true rfl, Nat.le_of_ble_eq_true rfl⟩) (List.append_nil _).symm 0 wB_0 rfl rfl rfl rfl (Nat.le_of_ble_eq_true rfl) ⟨by show _ ≤ 500; omega, by show _ ≤ 3000; omega⟩ dL_from_221 (fun r221 u221 hu221 => ?_)
                                  rw [List.nil_append, List.append_nil]
                                  obtain ⟨hr, hv0⟩ := hu221
                                  have hT221 : Tie st u221 := tie_trial h6T hv0
                                  obtain rfl : r221 = iZ (toValley st.1 2000) := hr
                                  show Gz pp l ee ({ frames := 9, cells := 500, slots := 3000, locals := 157 } : Room) ss mm args below meth cd 7 (k6 + 0) (n6 + 0) Q (Zw D vwCl (va_A wst sz) ss (wC y o a96 u221 tb st)) 224 [(0, .ref (o 0)), (1, .long (lZ h)), (3, .long (lZ hx6)), (5, .int (iZ x6))] [.int (iZ (toValley st.1 2000)), .long (lZ hx6)]
                                  refine z_i2lw mx mb dL_from_224 ?_
                                  refine z_callPSl (As := [.long (lZ hx6), .long (lZ (wz (toValley st.1 2000)))]) (rest := []) ⟨mx, mb, mml, mo, mts⟩ hK zgw (c_L_mixed l D y hx6 (wz (toValley st.1 2000))) (cwS 2 mts gL_from_L_mixed rfl rfl rfl (by decide +kernel) ⟨Nat.le_of_ble_eq_true rfl, Nat.le_of_ble_eq_true rfl⟩) (fun _ h9 => nomatch h9) rfl rfl (Nat.le_of_ble_eq_true rfl) ⟨by show _ ≤ 500; omega, by show _ ≤ 3000; omega⟩ dL_from_225 ?_
                                  refine z_widen (k1 := 500) (n1 := 3000) (by omega) (by omega) ?_
                                  rw [hQ]
                                  exact z_retL mx mb mr mlk hK (a96, u221) (by exact ⟨by rw [h6h, e6]; rfl, hT221⟩) rfl dL_from_228
                                · skip
                                  refine z_aload_n mx mb dL_from_179 rfl 0 rfl ?_
                                  refine z_iload mx mb dL_from_180 3 rfl ?_
                                  refine z_iconst mx mb dL_from_182 ?_
                                  refine z_callSI (wa := []) (wc := (wC y o a96 S96 tb st)) (wb := []) (As := [.ref (o 0), .int (iZ x6), .int (iZ 0)]) (rest := []) ⟨mx, mb, mml, mo, mts⟩ hK hA hE (fun sz => c_L_sent l hl0 D sz y o a96 S96 tb st x6 0 (by omega) (by decide) h6T) (vx_cwSW 3 mts gL_from_L_sent rfl rfl rfl (by decide +kernel) ⟨Nat.le_of_ble_eq_true rfl, Nat.le_of_ble_eq_true rfl⟩) (List.append_nil _).symm rfl rfl (Nat.le_of_ble_eq_true rfl) ⟨by show _ ≤ 500; omega, by show _ ≤ 3000; omega⟩ dL_from_183 (fun r183 u183 hu183 => ?_)
                                  rw [List.nil_append, List.append_nil]
                                  obtain ⟨a183, S183⟩ := u183
                                  obtain ⟨hr, hT183⟩ := hu183
                                  replace hT183 : Tie st S183 := hT183
                                  obtain rfl : r183 = iZ (sntV st x6 0) := hr
                                  show Gz pp l ee ({ frames := 9, cells := 500, slots := 3000, locals := 157 } : Room) ss mm args below meth cd 7 (k6 + 1) (n6 + 6) Q (Zw D vwCl (va_A wst sz) ss (wC y o a183 S183 tb st)) 186 [(0, .ref (o 0)), (1, .long (lZ h)), (3, .long (lZ hx6)), (5, .int (iZ x6))] [.int (iZ (sntV st x6 0))]
                                  have sr := snt_rng (i := x6) lp
                                  refine z_if_lt (tgt := 219) mx mb (by omega) dL_from_186 (by decide) (fun c186 => ?_) (fun c186 => ?_)
                                  · skip
                                    have e6 : i6 = (st.1 10).toNat := by omega
                                    refine z_lload_n mx mb dL_from_219 rfl 2 rfl ?_
                                    refine z_aload_n mx mb dL_from_220 rfl 0 rfl ?_
                                    refine z_callI (wa := []) (wc := (wC y o a183 S183 tb st)) (wb := []) (As := []) (rest := [.long (lZ hx6)]) ⟨mx, mb, mml, mo, mts⟩ hK hA (fun sz => c_X4_ticksToValley l D sz y o a183 S183 tb st.2.2.2.1 st.2.2.2.2 st.2.2.1 st.1 hT183.1.1 hT183.1.2.1 hT183.1.2.2.1) (cwV 0 mts gL_from_X4_ticksToValley rfl rfl rfl (by decide +kernel) ⟨Nat.le_of_ble_eq_true rfl, Nat.le_of_ble_eq_true rfl⟩) (List.append_nil _).symm 0 wB_0 rfl rfl rfl rfl (Nat.le_of_ble_eq_true rfl) ⟨by show _ ≤ 500; omega, by show _ ≤ 3000; omega⟩ dL_from_221 (fun r221 u221 hu221 => ?_)
                                    rw [List.nil_append, List.append_nil]
                                    obtain ⟨hr, hv0⟩ := hu221
                                    have hT221 : Tie st u221 := tie_trial hT183 hv0
                                    obtain rfl : r221 = iZ (toValley st.1 2000) := hr
                                    show Gz pp l ee ({ frames := 9, cells := 500, slots := 3000, locals := 157 } : Room) ss mm args below meth cd 7 (k6 + 1 + 0) (n6 + 6 + 0) Q (Zw D vwCl (va_A wst sz) ss (wC y o a183 u221 tb st)) 224 [(0, .ref (o 0)), (1, .long (lZ h)), (3, .long (lZ hx6)), (5, .int (iZ x6))] [.int (iZ (toValley st.1 2000)), .long (lZ hx6)]
                                    refine z_i2lw mx mb dL_from_224 ?_
                                    refine z_callPSl (As := [.long (lZ hx6), .long (lZ (wz (toValley st.1 2000)))]) (rest := []) ⟨mx, mb, mml, mo, mts⟩ hK zgw (c_L_mixed l D y hx6 (wz (toValley st.1 2000))) (cwS 2 mts gL_from_L_mixed rfl rfl rfl (by decide +kernel) ⟨Nat.le_of_ble_eq_true rfl, Nat.le_of_ble_eq_true rfl⟩) (fun _ h9 => nomatch h9) rfl rfl (Nat.le_of_ble_eq_true rfl) ⟨by show _ ≤ 500; omega, by show _ ≤ 3000; omega⟩ dL_from_225 ?_
                                    refine z_widen (k1 := 500) (n1 := 3000) (by omega) (by omega) ?_
                                    rw [hQ]
                                    exact z_retL mx mb mr mlk hK (a183, u221) (by exact ⟨by rw [h6h, e6]; rfl, hT221⟩) rfl dL_from_228
                                  · skip
                                    refine z_lload_n mx mb dL_from_189 rfl 2 rfl ?_
                                    refine z_aload_n mx mb dL_from_190 rfl 0 rfl ?_
                                    refine z_iload mx mb dL_from_191 3 rfl ?_
                                    refine z_iconst mx mb dL_from_193 ?_
                                    refine z_callSI (wa := []) (wc := (wC y o a183 S183 tb st)) (wb := []) (As := [.ref (o 0), .int (iZ x6), .int (iZ 0)]) (rest := [.long (lZ hx6)]) ⟨mx, mb, mml, mo, mts⟩ hK hA hE (fun sz => c_L_sent l hl0 D sz y o a183 S183 tb st x6 0 (by omega) (by decide) hT183) (vx_cwSW 3 mts gL_from_L_sent rfl rfl rfl (by decide +kernel) ⟨Nat.le_of_ble_eq_true rfl, Nat.le_of_ble_eq_true rfl⟩) (List.append_nil _).symm rfl rfl (Nat.le_of_ble_eq_true rfl) ⟨by show _ ≤ 500; omega, by show _ ≤ 3000; omega⟩ dL_from_194 (fun r194 u194 hu194 => ?_)
                                    rw [List.nil_append, List.append_nil]
                                    obtain ⟨a194, S194⟩ := u194
                                    obtain ⟨hr, hT194⟩ := hu194
                                    replace hT194 : Tie st S194 := hT194
                                    obtain rfl : r194 = iZ (hLog st.1 (2 * i6)) := hr.trans (congrArg iZ (show sntV st x6 0 = hLog st.1 (2 * i6) from by rw [h6e, snt_in (by omega) (by omega)]; exact congrArg st.1 (by omega)))
                                    show Gz pp l ee ({ frames := 9, cells := 500, slots := 3000, locals := 157 } : Room) ss mm args below meth cd 7 (k6 + 1 + 1) (n6 + 6 + 6) Q (Zw D vwCl (va_A wst sz) ss (wC y o a194 S194 tb st)) 197 [(0, .ref (o 0)), (1, .long (lZ h)), (3, .long (lZ hx6)), (5, .int (iZ x6))] [.int (iZ (hLog st.1 (2 * i6))), .long (lZ hx6)]
                                    refine z_i2lw mx mb dL_from_197 ?_
                                    refine z_callPSl (As := [.long (lZ hx6), .long (lZ (wz (hLog st.1 (2 * i6))))]) (rest := []) ⟨mx, mb, mml, mo, mts⟩ hK zgw (c_L_mixed l D y hx6 (wz (hLog st.1 (2 * i6)))) (cwS 2 mts gL_from_L_mixed rfl rfl rfl (by decide +kernel) ⟨Nat.le_of_ble_eq_true rfl, Nat.le_of_ble_eq_true rfl⟩) (fun _ h9 => nomatch h9) rfl rfl (Nat.le_of_ble_eq_true rfl) ⟨by show _ ≤ 500; omega, by show _ ≤ 3000; omega⟩ dL_from_198 ?_
                                    refine z_aload_n mx mb dL_from_201 rfl 0 rfl ?_
                                    refine z_iload mx mb dL_from_202 3 rfl ?_
                                    refine z_iconst mx mb dL_from_204 ?_
                                    refine z_callSI (wa := []) (wc := (wC y o a194 S194 tb st)) (wb := []) (As := [.ref (o 0), .int (iZ x6), .int (iZ 1)]) (rest := [.long (lZ (31 * hx6 + (wz (hLog st.1 (2 * i6)))))]) ⟨mx, mb, mml, mo, mts⟩ hK hA hE (fun sz => c_L_sent l hl0 D sz y o a194 S194 tb st x6 1 (by omega) (by decide) hT194) (vx_cwSW 3 mts gL_from_L_sent rfl rfl rfl (by decide +kernel) ⟨Nat.le_of_ble_eq_true rfl, Nat.le_of_ble_eq_true rfl⟩) (List.append_nil _).symm rfl rfl (Nat.le_of_ble_eq_true rfl) ⟨by show _ ≤ 500; omega, by show _ ≤ 3000; omega⟩ dL_from_205 (fun r205 u205 hu205 => ?_)
                                    rw [List.nil_append, List.append_nil]
                                    obtain ⟨a205, S205⟩ := u205
                                    obtain ⟨hr, hT205⟩ := hu205
                                    replace hT205 : Tie st S205 := hT205
                                    obtain rfl : r205 = iZ (hLog st.1 (2 * i6 + 1)) := hr.trans (congrArg iZ (show sntV st x6 1 = hLog st.1 (2 * i6 + 1) from by rw [h6e, snt_in (by omega) (by omega)]; exact congrArg st.1 (by omega)))
                                    show Gz pp l ee ({ frames := 9, cells := 500, slots := 3000, locals := 157 } : Room) ss mm args below meth cd 7 (k6 + 1 + 1 + 1) (n6 + 6 + 6 + 6) Q (Zw D vwCl (va_A wst sz) ss (wC y o a205 S205 tb st)) 208 [(0, .ref (o 0)), (1, .long (lZ h)), (3, .long (lZ hx6)), (5, .int (iZ x6))] [.int (iZ (hLog st.1 (2 * i6 + 1))), .long (lZ (31 * hx6 + (wz (hLog st.1 (2 * i6)))))]
                                    refine z_i2lw mx mb dL_from_208 ?_
                                    refine z_callPSl (As := [.long (lZ (31 * hx6 + (wz (hLog st.1 (2 * i6))))), .long (lZ (wz (hLog st.1 (2 * i6 + 1))))]) (rest := []) ⟨mx, mb, mml, mo, mts⟩ hK zgw (c_L_mixed l D y (31 * hx6 + (wz (hLog st.1 (2 * i6)))) (wz (hLog st.1 (2 * i6 + 1)))) (cwS 2 mts gL_from_L_mixed rfl rfl rfl (by decide +kernel) ⟨Nat.le_of_ble_eq_true rfl, Nat.le_of_ble_eq_true rfl⟩) (fun _ h9 => nomatch h9) rfl rfl (Nat.le_of_ble_eq_true rfl) ⟨by show _ ≤ 500; omega, by show _ ≤ 3000; omega⟩ dL_from_209 ?_
                                    refine z_lstore_n mx mb dL_from_212 rfl (by decide) [(3, .long (lZ (31 * (31 * hx6 + (wz (hLog st.1 (2 * i6)))) + (wz (hLog st.1 (2 * i6 + 1)))))), (0, .ref (o 0)), (1, .long (lZ h)), (5, .int (iZ x6))] rfl ?_
                                    refine z_iinc mx mb dL_from_213 3 rfl (by decide) [(5, .int (iZ (x6 + 1))), (3, .long (lZ (31 * (31 * hx6 + (wz (hLog st.1 (2 * i6)))) + (wz (hLog st.1 (2 * i6 + 1)))))), (0, .ref (o 0)), (1, .long (lZ h))] rfl ?_
                                    refine z_goto (tgt := 172) mx mb dL_from_216 (by decide) ?_
                                    refine z_lv [2, 3, 1, 0] rfl ?_
                                    exact ih172 (i6 + 1) _ _ a205 S205 (k6 + 1 + 1 + 1) (n6 + 6 + 6 + 6) (by omega) (by omega) (by omega) (by rw [h6h]; rfl) (by omega) (by omega) (by exact hT205)
                            refine z_lv [1, 2, 3, 0] rfl ?_
                            exact lp172 _ 0 0 hx4 a115 S115 (k4 + 1) (n4 + 6) (Nat.lt_succ_self _) (by omega) (by rfl) (by rw [h4h, e4]; rfl) (by omega) (by omega) (by exact hT115)
                          · skip
                            refine z_iconst mx mb dL_from_121 ?_
                            refine z_istore mx mb dL_from_122 (by decide) [(6, .int (iZ 0)), (0, .ref (o 0)), (1, .long (lZ h)), (3, .long (lZ hx4)), (5, .int (iZ x4))] rfl ?_
                            have lp124 : ∀ (nn : Nat) (i5 : Nat) (x5 hx5 : Int) (a95 : Nat → Nat → Nat) (S95 : Nat → Nat → Int → Int) (k5 n5 : Nat), 10 - i5 < nn → (i5 ≤ 10) → (x5 = (i5 : Int)) → (hx5 = hgo (fun w => trainOf st.1 (i4 : Int) (w : Int)) (hTr st.1 (dgB st.1 (dgC st.1 (hgo (fun w => valueOf st.1 (w : Int)) h 12))) i4) i5) → (k5 ≤ 334 + 12 * i4 + 1 + 1 * i5) → (n5 ≤ 6 * (334 + 12 * i4 + 1 + 1 * i5)) → (Tie st S95) → Gz pp l ee ({ frames := 9, cells := 500, slots := 3000, locals := 157 } : Room) ss mm args below meth cd 7 k5 n5 Q (Zw D vwCl (va_A wst sz) ss (wC y o a95 S95 tb st)) 124 [(0, .ref (o 0)), (1, .long (lZ h)), (3, .long (lZ hx5)), (5, .int (iZ x4)), (6, .int (iZ x5))] [] := by
                              intro nn
                              induction nn with
                              | zero => exact fun i5 x5 hx5 a95 S95 k5 n5 hm => absurd hm (Nat.not_lt_zero _)
                              | succ nn ih124 =>
                                intro i5 x5 hx5 a95 S95 k5 n5 hm h5i h5e h5h h5k h5n h5T
                                refine z_iload mx mb dL_from_124 4 rfl ?_
                                refine z_bipush mx mb dL_from_126 (by decide +kernel) ?_
                                refine z_icmp_ge (tgt := 151) mx mb (by omega) (by omega) dL_from_128 (by decide) (fun c128 => ?_) (fun c128 => ?_)
                                · skip
                                  have e5 : i5 = 10 := by omega
                                  refine z_lload_n mx mb dL_from_151 rfl 2 rfl ?_
                                  refine z_aload_n mx mb dL_from_152 rfl 0 rfl ?_
                                  refine z_iload mx mb dL_from_153 3 rfl ?_
                                  refine z_callSI (wa := []) (wc := (wC y o a95 S95 tb st)) (wb := []) (As := [.ref (o 0), .int (iZ x4)]) (rest := [.long (lZ hx5)]) ⟨mx, mb, mml, mo, mts⟩ hK hA hE (fun sz => c_L_reason l hl0 D sz y o a95 S95 tb st x4 (by omega) h5T) (vx_cwSW 2 mts gL_from_L_reason rfl rfl rfl (by decide +kernel) ⟨Nat.le_of_ble_eq_true rfl, Nat.le_of_ble_eq_true rfl⟩) (List.append_nil _).symm rfl rfl (Nat.le_of_ble_eq_true rfl) ⟨by show _ ≤ 500; omega, by show _ ≤ 3000; omega⟩ dL_from_155 (fun r155 u155 hu155 => ?_)
                                  rw [List.nil_append, List.append_nil]
                                  obtain ⟨a155, S155⟩ := u155
                                  obtain ⟨hr, hT155⟩ := hu155
                                  replace hT155 : Tie st S155 := hT155
                                  obtain rfl : r155 = iZ (whyOf st.1 (i4 : Int)) := hr.trans (congrArg iZ (show whyV st x4 = whyOf st.1 (i4 : Int) from by rw [h4e]; exact v3_0 (by unfold thOne; rw [if_pos (by omega)])))
                                  show Gz pp l ee ({ frames := 9, cells := 500, slots := 3000, locals := 157 } : Room) ss mm args below meth cd 7 (k5 + 1) (n5 + 6) Q (Zw D vwCl (va_A wst sz) ss (wC y o a155 S155 tb st)) 158 [(0, .ref (o 0)), (1, .long (lZ h)), (3, .long (lZ hx5)), (5, .int (iZ x4)), (6, .int (iZ x5))] [.int (iZ (whyOf st.1 (i4 : Int))), .long (lZ hx5)]
                                  refine z_i2lw mx mb dL_from_158 ?_
                                  refine z_callPSl (As := [.long (lZ hx5), .long (lZ (wz (whyOf st.1 (i4 : Int))))]) (rest := []) ⟨mx, mb, mml, mo, mts⟩ hK zgw (c_L_mixed l D y hx5 (wz (whyOf st.1 (i4 : Int)))) (cwS 2 mts gL_from_L_mixed rfl rfl rfl (by decide +kernel) ⟨Nat.le_of_ble_eq_true rfl, Nat.le_of_ble_eq_true rfl⟩) (fun _ h9 => nomatch h9) rfl rfl (Nat.le_of_ble_eq_true rfl) ⟨by show _ ≤ 500; omega, by show _ ≤ 3000; omega⟩ dL_from_159 ?_
                                  refine z_lstore_n mx mb dL_from_162 rfl (by decide) [(3, .long (lZ (31 * hx5 + (wz (whyOf st.1 (i4 : Int)))))), (0, .ref (o 0)), (1, .long (lZ h)), (5, .int (iZ x4)), (6, .int (iZ x5))] rfl ?_
                                  refine z_iinc mx mb dL_from_163 3 rfl (by decide) [(5, .int (iZ (x4 + 1))), (3, .long (lZ (31 * hx5 + (wz (whyOf st.1 (i4 : Int)))))), (0, .ref (o 0)), (1, .long (lZ h)), (6, .int (iZ x5))] rfl ?_
                                  refine z_goto (tgt := 111) mx mb dL_from_166 (by decide) ?_
                                  refine z_lv [2, 3, 1, 0] rfl ?_
                                  exact ih111 (i4 + 1) _ _ a155 S155 (k5 + 1) (n5 + 6) (by omega) (by omega) (by omega) (by rw [h5h, e5]; rfl) (by omega) (by omega) (by exact hT155)
                                · skip
                                  refine z_lload_n mx mb dL_from_131 rfl 2 rfl ?_
                                  refine z_aload_n mx mb dL_from_132 rfl 0 rfl ?_
                                  refine z_iload mx mb dL_from_133 3 rfl ?_
                                  refine z_iload mx mb dL_from_135 4 rfl ?_
                                  refine z_callSI (wa := []) (wc := (wC y o a95 S95 tb st)) (wb := []) (As := [.ref (o 0), .int (iZ x4), .int (iZ x5)]) (rest := [.long (lZ hx5)]) ⟨mx, mb, mml, mo, mts⟩ hK hA hE (fun sz => c_L_trainBy l hl0 D sz y o a95 S95 tb st x4 x5 (by omega) (by omega) h5T) (vx_cwSW 3 mts gL_from_L_trainBy rfl rfl rfl (by decide +kernel) ⟨Nat.le_of_ble_eq_true rfl, Nat.le_of_ble_eq_true rfl⟩) (List.append_nil _).symm rfl rfl (Nat.le_of_ble_eq_true rfl) ⟨by show _ ≤ 500; omega, by show _ ≤ 3000; omega⟩ dL_from_137 (fun r137 u137 hu137 => ?_)
                                  rw [List.nil_append, List.append_nil]
                                  obtain ⟨a137, S137⟩ := u137
                                  obtain ⟨hr, hT137⟩ := hu137
                                  replace hT137 : Tie st S137 := hT137
                                  obtain rfl : r137 = iZ (trainOf st.1 (i4 : Int) (i5 : Int)) := hr.trans (congrArg iZ (show trnV st x4 x5 = trainOf st.1 (i4 : Int) (i5 : Int) from by rw [h4e, h5e]; exact v3_0 (by unfold thIn; rw [if_pos (by omega), if_pos (by omega)])))
                                  show Gz pp l ee ({ frames := 9, cells := 500, slots := 3000, locals := 157 } : Room) ss mm args below meth cd 7 (k5 + 1) (n5 + 6) Q (Zw D vwCl (va_A wst sz) ss (wC y o a137 S137 tb st)) 140 [(0, .ref (o 0)), (1, .long (lZ h)), (3, .long (lZ hx5)), (5, .int (iZ x4)), (6, .int (iZ x5))] [.int (iZ (trainOf st.1 (i4 : Int) (i5 : Int))), .long (lZ hx5)]
                                  refine z_i2lw mx mb dL_from_140 ?_
                                  refine z_callPSl (As := [.long (lZ hx5), .long (lZ (wz (trainOf st.1 (i4 : Int) (i5 : Int))))]) (rest := []) ⟨mx, mb, mml, mo, mts⟩ hK zgw (c_L_mixed l D y hx5 (wz (trainOf st.1 (i4 : Int) (i5 : Int)))) (cwS 2 mts gL_from_L_mixed rfl rfl rfl (by decide +kernel) ⟨Nat.le_of_ble_eq_true rfl, Nat.le_of_ble_eq_true rfl⟩) (fun _ h9 => nomatch h9) rfl rfl (Nat.le_of_ble_eq_true rfl) ⟨by show _ ≤ 500; omega, by show _ ≤ 3000; omega⟩ dL_from_141 ?_
                                  refine z_lstore_n mx mb dL_from_144 rfl (by decide) [(3, .long (lZ (31 * hx5 + (wz (trainOf st.1 (i4 : Int) (i5 : Int)))))), (0, .ref (o 0)), (1, .long (lZ h)), (5, .int (iZ x4)), (6, .int (iZ x5))] rfl ?_
                                  refine z_iinc mx mb dL_from_145 4 rfl (by decide) [(6, .int (iZ (x5 + 1))), (3, .long (lZ (31 * hx5 + (wz (trainOf st.1 (i4 : Int) (i5 : Int)))))), (0, .ref (o 0)), (1, .long (lZ h)), (5, .int (iZ x4))] rfl ?_
                                  refine z_goto (tgt := 124) mx mb dL_from_148 (by decide) ?_
                                  refine z_lv [2, 3, 1, 4, 0] rfl ?_
                                  exact ih124 (i5 + 1) _ _ a137 S137 (k5 + 1) (n5 + 6) (by omega) (by omega) (by omega) (by rw [h5h]; rfl) (by omega) (by omega) (by exact hT137)
                            refine z_lv [1, 2, 3, 4, 0] rfl ?_
                            exact lp124 _ 0 0 hx4 a115 S115 (k4 + 1) (n4 + 6) (Nat.lt_succ_self _) (by omega) (by rfl) (by rw [h4h]; rfl) (by omega) (by omega) (by exact hT115)
                      refine z_lv [1, 2, 3, 0] rfl ?_
                      exact lp111 _ 0 0 hx3 a77 S77 (k3 + 1) (n3 + 6) (Nat.lt_succ_self _) (by omega) (by rfl) (by rw [h3h, e3]; rfl) (by omega) (by omega) (by exact hT77)
                    · skip
                      refine z_lload_n mx mb dL_from_84 rfl 2 rfl ?_
                      refine z_aload_n mx mb dL_from_85 rfl 0 rfl ?_
                      refine z_iload mx mb dL_from_86 3 rfl ?_
                      refine z_iconst mx mb dL_from_88 ?_
                      refine z_idiv mx mb (by omega) (by omega) dL_from_89 ?_
                      refine z_iload mx mb dL_from_90 3 rfl ?_
                      refine z_iconst mx mb dL_from_92 ?_
                      refine z_irem mx mb (by omega) (by omega) dL_from_93 ?_
                      refine z_callSI (wa := []) (wc := (wC y o a77 S77 tb st)) (wb := []) (As := [.ref (o 0), .int (iZ (x3 / 5)), .int (iZ (x3 % 5))]) (rest := [.long (lZ hx3)]) ⟨mx, mb, mml, mo, mts⟩ hK hA hE (fun sz => c_L_blockBy l hl0 D sz y o a77 S77 tb st (x3 / 5) (x3 % 5) (by omega) (by omega) hT77) (vx_cwSW 3 mts gL_from_L_blockBy rfl rfl rfl (by decide +kernel) ⟨Nat.le_of_ble_eq_true rfl, Nat.le_of_ble_eq_true rfl⟩) (List.append_nil _).symm rfl rfl (Nat.le_of_ble_eq_true rfl) ⟨by show _ ≤ 500; omega, by show _ ≤ 3000; omega⟩ dL_from_94 (fun r94 u94 hu94 => ?_)
                      rw [List.nil_append, List.append_nil]
                      obtain ⟨a94, S94⟩ := u94
                      obtain ⟨hr, hT94⟩ := hu94
                      replace hT94 : Tie st S94 := hT94
                      obtain rfl : r94 = iZ (hBlk st.1 i3) := hr.trans (congrArg iZ (show blkV st (x3 / 5) (x3 % 5) = hBlk st.1 i3 from by rw [h3e]; exact v3_0 (by unfold thIn; rw [if_pos (by omega), if_pos (by omega)])))
                      show Gz pp l ee ({ frames := 9, cells := 500, slots := 3000, locals := 157 } : Room) ss mm args below meth cd 7 (k3 + 1 + 1) (n3 + 6 + 6) Q (Zw D vwCl (va_A wst sz) ss (wC y o a94 S94 tb st)) 97 [(0, .ref (o 0)), (1, .long (lZ h)), (3, .long (lZ hx3)), (5, .int (iZ x3))] [.int (iZ (hBlk st.1 i3)), .long (lZ hx3)]
                      refine z_i2lw mx mb dL_from_97 ?_
                      refine z_callPSl (As := [.long (lZ hx3), .long (lZ (wz (hBlk st.1 i3)))]) (rest := []) ⟨mx, mb, mml, mo, mts⟩ hK zgw (c_L_mixed l D y hx3 (wz (hBlk st.1 i3))) (cwS 2 mts gL_from_L_mixed rfl rfl rfl (by decide +kernel) ⟨Nat.le_of_ble_eq_true rfl, Nat.le_of_ble_eq_true rfl⟩) (fun _ h9 => nomatch h9) rfl rfl (Nat.le_of_ble_eq_true rfl) ⟨by show _ ≤ 500; omega, by show _ ≤ 3000; omega⟩ dL_from_98 ?_
                      refine z_lstore_n mx mb dL_from_101 rfl (by decide) [(3, .long (lZ (31 * hx3 + (wz (hBlk st.1 i3))))), (0, .ref (o 0)), (1, .long (lZ h)), (5, .int (iZ x3))] rfl ?_
                      refine z_iinc mx mb dL_from_102 3 rfl (by decide) [(5, .int (iZ (x3 + 1))), (3, .long (lZ (31 * hx3 + (wz (hBlk st.1 i3))))), (0, .ref (o 0)), (1, .long (lZ h))] rfl ?_
                      refine z_goto (tgt := 72) mx mb dL_from_105 (by decide) ?_
                      refine z_lv [2, 3, 1, 0] rfl ?_
                      exact ih72 (i3 + 1) _ _ a94 S94 (k3 + 1 + 1) (n3 + 6 + 6) (by omega) (by omega) (by omega) (by rw [h3h]; rfl) (by omega) (by omega) (by exact hT94)
                refine z_lv [1, 2, 3, 0] rfl ?_
                exact lp72 _ 0 0 hx2 a38 S38 (k2 + 1) (n2 + 6) (Nat.lt_succ_self _) (by omega) (by rfl) (by rw [h2h, e2]; rfl) (by omega) (by omega) (by exact hT38)
              · skip
                refine z_lload_n mx mb dL_from_45 rfl 2 rfl ?_
                refine z_aload_n mx mb dL_from_46 rfl 0 rfl ?_
                refine z_iload mx mb dL_from_47 3 rfl ?_
                refine z_iconst mx mb dL_from_49 ?_
                refine z_idiv mx mb (by omega) (by omega) dL_from_50 ?_
                refine z_iload mx mb dL_from_51 3 rfl ?_
                refine z_iconst mx mb dL_from_53 ?_
                refine z_irem mx mb (by omega) (by omega) dL_from_54 ?_
                refine z_callSI (wa := []) (wc := (wC y o a38 S38 tb st)) (wb := []) (As := [.ref (o 0), .int (iZ (x2 / 4)), .int (iZ (x2 % 4))]) (rest := [.long (lZ hx2)]) ⟨mx, mb, mml, mo, mts⟩ hK hA hE (fun sz => c_L_cellBy l hl0 D sz y o a38 S38 tb st (x2 / 4) (x2 % 4) (by omega) (by omega) hT38) (vx_cwSW 3 mts gL_from_L_cellBy rfl rfl rfl (by decide +kernel) ⟨Nat.le_of_ble_eq_true rfl, Nat.le_of_ble_eq_true rfl⟩) (List.append_nil _).symm rfl rfl (Nat.le_of_ble_eq_true rfl) ⟨by show _ ≤ 500; omega, by show _ ≤ 3000; omega⟩ dL_from_55 (fun r55 u55 hu55 => ?_)
                rw [List.nil_append, List.append_nil]
                obtain ⟨a55, S55⟩ := u55
                obtain ⟨hr, hT55⟩ := hu55
                replace hT55 : Tie st S55 := hT55
                obtain rfl : r55 = iZ (hCell st.1 i2) := hr.trans (congrArg iZ (show celV st (x2 / 4) (x2 % 4) = hCell st.1 i2 from by rw [h2e]; exact v3_0 (by unfold thIn; rw [if_pos (by omega), if_pos (by omega)])))
                show Gz pp l ee ({ frames := 9, cells := 500, slots := 3000, locals := 157 } : Room) ss mm args below meth cd 7 (k2 + 1 + 1) (n2 + 6 + 6) Q (Zw D vwCl (va_A wst sz) ss (wC y o a55 S55 tb st)) 58 [(0, .ref (o 0)), (1, .long (lZ h)), (3, .long (lZ hx2)), (5, .int (iZ x2))] [.int (iZ (hCell st.1 i2)), .long (lZ hx2)]
                refine z_i2lw mx mb dL_from_58 ?_
                refine z_callPSl (As := [.long (lZ hx2), .long (lZ (wz (hCell st.1 i2)))]) (rest := []) ⟨mx, mb, mml, mo, mts⟩ hK zgw (c_L_mixed l D y hx2 (wz (hCell st.1 i2))) (cwS 2 mts gL_from_L_mixed rfl rfl rfl (by decide +kernel) ⟨Nat.le_of_ble_eq_true rfl, Nat.le_of_ble_eq_true rfl⟩) (fun _ h9 => nomatch h9) rfl rfl (Nat.le_of_ble_eq_true rfl) ⟨by show _ ≤ 500; omega, by show _ ≤ 3000; omega⟩ dL_from_59 ?_
                refine z_lstore_n mx mb dL_from_62 rfl (by decide) [(3, .long (lZ (31 * hx2 + (wz (hCell st.1 i2))))), (0, .ref (o 0)), (1, .long (lZ h)), (5, .int (iZ x2))] rfl ?_
                refine z_iinc mx mb dL_from_63 3 rfl (by decide) [(5, .int (iZ (x2 + 1))), (3, .long (lZ (31 * hx2 + (wz (hCell st.1 i2))))), (0, .ref (o 0)), (1, .long (lZ h))] rfl ?_
                refine z_goto (tgt := 33) mx mb dL_from_66 (by decide) ?_
                refine z_lv [2, 3, 1, 0] rfl ?_
                exact ih33 (i2 + 1) _ _ a55 S55 (k2 + 1 + 1) (n2 + 6 + 6) (by omega) (by omega) (by omega) (by rw [h2h]; rfl) (by omega) (by omega) (by exact hT55)
          refine z_lv [1, 2, 3, 0] rfl ?_
          exact lp33 _ 0 0 hx1 a91 S91 k1 n1 (Nat.lt_succ_self _) (by omega) (by rfl) (by rw [h1h, e1]; rfl) (by omega) (by omega) (by exact h1T)
        · skip
          refine z_lload_n mx mb dL_from_12 rfl 2 rfl ?_
          refine z_aload_n mx mb dL_from_13 rfl 0 rfl ?_
          refine z_iload mx mb dL_from_14 3 rfl ?_
          refine z_callSI (wa := []) (wc := (wC y o a91 S91 tb st)) (wb := []) (As := [.ref (o 0), .int (iZ x1)]) (rest := [.long (lZ hx1)]) ⟨mx, mb, mml, mo, mts⟩ hK hA hE (fun sz => c_L_all l hl0 D sz y o a91 S91 tb st x1 (by omega) h1T) (vx_cwSW 2 mts gL_from_L_all rfl rfl rfl (by decide +kernel) ⟨Nat.le_of_ble_eq_true rfl, Nat.le_of_ble_eq_true rfl⟩) (List.append_nil _).symm rfl rfl (Nat.le_of_ble_eq_true rfl) ⟨by show _ ≤ 500; omega, by show _ ≤ 3000; omega⟩ dL_from_16 (fun r16 u16 hu16 => ?_)
          rw [List.nil_append, List.append_nil]
          obtain ⟨a16, S16⟩ := u16
          obtain ⟨hr, hT16⟩ := hu16
          replace hT16 : Tie st S16 := hT16
          obtain rfl : r16 = iZ (valueOf st.1 (i1 : Int)) := hr.trans (congrArg iZ (show allV st x1 = valueOf st.1 (i1 : Int) from by rw [h1e]; exact v3_0 (by unfold thOne; rw [if_pos (by omega)])))
          show Gz pp l ee ({ frames := 9, cells := 500, slots := 3000, locals := 157 } : Room) ss mm args below meth cd 7 (k1 + 1) (n1 + 6) Q (Zw D vwCl (va_A wst sz) ss (wC y o a16 S16 tb st)) 19 [(0, .ref (o 0)), (1, .long (lZ h)), (3, .long (lZ hx1)), (5, .int (iZ x1))] [.int (iZ (valueOf st.1 (i1 : Int))), .long (lZ hx1)]
          refine z_i2lw mx mb dL_from_19 ?_
          refine z_callPSl (As := [.long (lZ hx1), .long (lZ (wz (valueOf st.1 (i1 : Int))))]) (rest := []) ⟨mx, mb, mml, mo, mts⟩ hK zgw (c_L_mixed l D y hx1 (wz (valueOf st.1 (i1 : Int)))) (cwS 2 mts gL_from_L_mixed rfl rfl rfl (by decide +kernel) ⟨Nat.le_of_ble_eq_true rfl, Nat.le_of_ble_eq_true rfl⟩) (fun _ h9 => nomatch h9) rfl rfl (Nat.le_of_ble_eq_true rfl) ⟨by show _ ≤ 500; omega, by show _ ≤ 3000; omega⟩ dL_from_20 ?_
          refine z_lstore_n mx mb dL_from_23 rfl (by decide) [(3, .long (lZ (31 * hx1 + (wz (valueOf st.1 (i1 : Int)))))), (0, .ref (o 0)), (1, .long (lZ h)), (5, .int (iZ x1))] rfl ?_
          refine z_iinc mx mb dL_from_24 3 rfl (by decide) [(5, .int (iZ (x1 + 1))), (3, .long (lZ (31 * hx1 + (wz (valueOf st.1 (i1 : Int)))))), (0, .ref (o 0)), (1, .long (lZ h))] rfl ?_
          refine z_goto (tgt := 5) mx mb dL_from_27 (by decide) ?_
          refine z_lv [2, 3, 1, 0] rfl ?_
          exact ih5 (i1 + 1) _ _ a16 S16 (k1 + 1) (n1 + 6) (by omega) (by omega) (by omega) (by rw [h1h]; rfl) (by omega) (by omega) (by exact hT16)
    refine z_lv [2, 3, 1, 0] rfl ?_
    exact lp5 _ 0 0 h a S 0 0 (Nat.lt_succ_self _) (by omega) (by rfl) (by rfl) (by omega) (by omega) (by exact hT)
  subst hQ
  subst hw0
  exact hstart
