/-! One train alone: what is free, what a tick does -/
theorem free1 {g : Int → Int} (hW : Wf g) (h2 : g 2 = 1) (hm : g (79 + 8 * 0 + 4) ≠ 0) : isFree g (nextB g (blockAt g (g (79 + 8 * 0 + 0)))) = true := by
  have c := (hW.2.2.2.2.2.2 0 (by omega) (by omega)).1
  have b := blockAt_rng hW c
  have ne := nextB_ne hW b
  refine isFree_iff.mpr ⟨?_, ?_⟩
  · unfold trainIn
    rw [h2]
    show (if (-1 : Int) = -1 ∧ blockAt g (g (79 + 8 * 0 + 0)) = nextB g (blockAt g (g (79 + 8 * 0 + 0))) then (0 : Int) else -1) = -1
    rw [if_neg (fun z => ne z.2.symm)]
  · rw [h2]
    exact nob_s.mpr ⟨rfl, fun z => hm z.1⟩
theorem moves_w {f : Int → Int} (hJ : Jx f) (h2 : f 2 = 1) {b : Int} (hb : 0 ≤ b ∧ b < 8) : moves f 0 (71 + b) = f (71 + b) := by
  have hW := hJ.f.1
  have ht : (0 : Int) ≤ 0 ∧ (0 : Int) < 4 := by omega
  have le := squareOn_le f (f (79 + 8 * 0 + 0)) (after f (f (79 + 8 * 0 + 0))) (f (79 + 8 * 0 + 1)) (drag f 0)
  unfold moves
  split
  · exact lies_2 (by omega) (by omega)
  · rename_i q1
    have jc := hJ.came (sq := squareOn f (f (79 + 8 * 0 + 0)) (after f (f (79 + 8 * 0 + 0))) (f (79 + 8 * 0 + 1)) (drag f 0)) ht (by omega)
    have c2 : came f 0 (squareOn f (f (79 + 8 * 0 + 0)) (after f (f (79 + 8 * 0 + 0))) (f (79 + 8 * 0 + 1)) (drag f 0)) 2 = 1 := by rw [came_2 (by omega) (by omega)]; exact h2
    have c7 : came f 0 (squareOn f (f (79 + 8 * 0 + 0)) (after f (f (79 + 8 * 0 + 0))) (f (79 + 8 * 0 + 1)) (drag f 0)) (71 + b) = f (71 + b) := came_2 (by omega) (by omega)
    split
    · rw [← c7]
      generalize came f 0 (squareOn f (f (79 + 8 * 0 + 0)) (after f (f (79 + 8 * 0 + 0))) (f (79 + 8 * 0 + 1)) (drag f 0)) = g at jc c2 ⊢
      have gW := jc.f.1
      have sW := Wf_stands gW ht
      have cr := (gW.2.2.2.2.2.2 0 (by omega) (by omega)).1
      have w0 := gW.1
      have fr := free1 sW (by rw [stands_2 (by omega) (by omega)]; exact c2) (by unfold stands; rw [put_row, put_row, put_row, put_row]; simp)
      rw [stands_at0, nextB_stands (by omega), blockAt_congr (f := g) (by omega) (stands_2 (by omega) (by omega)) (fun i _ _ => stands_2 (by omega) (by omega))] at fr
      have br := blockAt_rng gW cr
      unfold comes
      rw [put_n (by omega)]
      by_cases e : 71 + b = 71 + blockAt g (g (79 + 8 * 0 + 0))
      · rw [e, zu_s, if_pos fr, stands_2 (by omega) (by have := gW.2.1; omega)]; omega
      · rw [zu_n e, stands_2 (by omega) (by omega)]
    · split
      · rw [lies_2 (by omega) (by omega), c7]
      · exact c7
theorem goes_w {f : Int → Int} (hJ : Jx f) (h2 : f 2 = 1) {b : Int} (hb : 0 ≤ b ∧ b < 8) : goes f 0 (71 + b) = f (71 + b) := by
  have k := (hJ.f.2.2 0 (by omega) (by omega)).2.1
  have r := by_rng (f := f) (t := 0) hJ.choose_spec.choose_spec.choose_spec.1 (by omega)
  unfold goes
  split
  · exact put_n (by omega)
  · rw [put_put, moves_w (hJ.put2 (by omega) (by omega)) (by rw [put_n (by omega)]; exact h2) hb, put_n (by omega)]
/-- a train's numbers, and the ticks, the dispatches, the latest one (told from 1) -/
abbrev X11 := U8 × Nat × Nat × Nat
def relN (dw gp c sd T la : Nat) : Bool := cond (Nat.beq c 0) (cond (Nat.ble dw (sd + 1)) (cond (Nat.beq la 0) true (Nat.ble (gp + la) (T + 1))) false) true
def stU (H fr dw gp ai : Nat) : X11 → X11
  | ((c, sq, pr, wa, mo, sd, mv, vs), T, D, la) =>
    cond (Nat.beq mo 1)
      (cond (relN dw gp c sd T la) ((c, 25, 0, warmN ai wa, 0, 0, mv, vs), T + 1, D + cond (Nat.beq c 0) 1 0, cond (Nat.beq c 0) (T + 1) la)
        ((c, sq, pr, warmN ai wa, 1, sd + 1, mv, vs), T + 1, D, la))
      (cond (Nat.beq mo 0) (goU H fr ai c sq pr wa sd mv vs, T + 1, D, la) ((c, sq, pr, warmN ai wa, mo, sd, mv, vs), T + 1, D, la))
def Vw (H fr dw gp ai : Nat) (f : Int → Int) (x : X11) : Prop :=
  Tr0 H f ∧ f 2 = 1 ∧ (f 4 = (fr : Int) ∧ f 5 = (dw : Int) ∧ f 6 = (gp : Int) ∧ f 7 = (ai : Int)) ∧ (f 3 = (x.2.1 : Int) ∧ f 8 = (x.2.2.1 : Int) ∧ f 10 = (x.2.2.1 : Int) ∧ f 9 = (x.2.2.2 : Int) - 1) ∧ TU f x.1
/-- what a tick does to the log -/
def Lo (f g : Int → Int) (x x' : X11) : Prop :=
  (x'.2.2.1 = x.2.2.1 ∧ x'.2.2.2 = x.2.2.2 ∧ ∀ i : Int, 111 ≤ i → i < 171 → g i = f i) ∨
  (x'.2.2.1 = x.2.2.1 + 1 ∧ x'.2.2.2 = x.2.1 + 1 ∧ ∀ i : Int, 111 ≤ i → i < 171 → g i = zu (zu f (111 + 2 * (x.2.2.1 : Int)) (x.2.1 : Int)) (111 + 2 * (x.2.2.1 : Int) + 1) 0 i)
/-- what a tick leaves alone -/
def Sm (f g : Int → Int) : Prop := ∀ i : Int, 71 ≤ i → (i < 79 ∨ (87 ≤ i ∧ i < 111)) → g i = f i
theorem holds_1 {f : Int → Int} (hW : Wf f) (h2 : f 2 = 1) (hm : f (79 + 8 * 0 + 4) = 1) (s : Int) : holds f 0 s = if blockAt f (f (79 + 8 * 0 + 0)) = 0 then (if s < f 5 then 3 else if isGap f = true then 5 else 4) else 5 := by
  unfold holds
  rw [if_pos (free1 hW h2 (by omega))]
theorem tick_1 {f : Int → Int} (h2 : f 2 = 1) : tick f = zu (step f 0) 3 (f 3 + 1) := by
  unfold tick
  rw [h2]
  rfl
theorem rel_5 {f : Int → Int} {H c sd dw gp T la : Nat} (tr : Tr0 H f) (hW : Wf f) (h2 : f 2 = 1) (hm : f (79 + 8 * 0 + 4) = 1) (hc : c < 14) (e0 : f (79 + 8 * 0 + 0) = (c : Int)) (h5 : f 5 = (dw : Int)) (h6 : f 6 = (gp : Int)) (h3 : f 3 = (T : Int)) (h9 : f 9 = (la : Int) - 1) :
    (relN dw gp c sd T la = true ↔ holds f 0 ((sd : Int) + 1) = 5) := by
  have bz := (bA_0 c hc).1
  rw [holds_1 hW h2 hm, e0, Tr0_blk tr hc, h5]
  unfold relN isGap
  simp only [cond_beq, cond_ble, h9, h6, h3]
  by_cases q : c = 0
  · have := bz.mpr q
    rw [if_pos q, if_pos (show ((bA c : Nat) : Int) = 0 by omega)]
    by_cases q2 : dw ≤ sd + 1
    · rw [if_pos q2, if_neg (show ¬ ((sd : Int) + 1 < (dw : Int)) by omega)]
      have dt : ((la = 0) ∨ gp + la ≤ T + 1) → (decide ((la : Int) - 1 = -1) || decide ((gp : Int) ≤ (T : Int) - ((la : Int) - 1))) = true := fun z => by
        rw [Bool.or_eq_true, decide_eq_true_eq, decide_eq_true_eq]; omega
      by_cases q3 : la = 0
      · rw [if_pos q3, if_pos (dt (Or.inl q3))]
        exact ⟨fun _ => rfl, fun _ => rfl⟩
      · rw [if_neg q3]
        by_cases q4 : gp + la ≤ T + 1
        · rw [if_pos (dt (Or.inr q4))]
          exact ⟨fun _ => rfl, fun _ => Nat.ble_eq_true_of_le q4⟩
        · rw [if_neg (fun z => by rw [Bool.or_eq_true, decide_eq_true_eq, decide_eq_true_eq] at z; omega)]
          exact ⟨fun z => absurd (Nat.le_of_ble_eq_true z) q4, fun z => absurd z (by decide)⟩
    · rw [if_neg q2, if_pos (by omega)]; simp
  · have : ¬ bA c = 0 := fun w => q (bz.mp w)
    rw [if_neg q, if_neg (show ¬ ((bA c : Nat) : Int) = 0 by omega)]; simp
theorem tick_Vw {H fr dw gp ai : Nat} {f : Int → Int} {x : X11} {N : Int} (h : Vw H fr dw gp ai f x) (hI : Inv N f) (hN : N ≤ 108000) (hD : x.2.2.1 < 30) : Vw H fr dw gp ai (tick f) (stU H fr dw gp ai x) ∧ Lo f (tick f) x (stU H fr dw gp ai x) ∧ Sm f (tick f) := by
  obtain ⟨⟨c, sq, pr, wa, mo, sd, mv, vs⟩, T, D, la⟩ := x
  obtain ⟨tr, h2, ⟨h4, h5, h6, h7⟩, ⟨h3, h8, h10, h9⟩, hU⟩ := h
  simp only at h3 h8 h10 h9 hD
  have hU : TV f (c : Int) (sq : Int) (pr : Int) (wa : Int) (mo : Int) (sd : Int) (mv : Int) (vs : Int) := hU
  have hX : InvX f := ⟨N, hI, by omega⟩
  have hJ := hX.J
  have hW := hJ.f.1
  have e0 := hU.1.1
  have e1 := hU.1.2.1
  have em := hU.2.1
  have es := hU.2.2.1
  have hc : c < 14 := by
    have := (hW.2.2.2.2.2.2 0 (by omega) (by omega)).1
    rw [e0, tr.1] at this; omega
  have hsq : sq ≤ 9999 := by
    have := (hJ.f.2.2 0 (by omega) (by omega)).1
    rw [e1] at this; omega
  have hm2 : mo ≤ 2 := by
    have := (hW.2.2.2.2.2.2 0 (by omega) (by omega)).2
    rw [em] at this; omega
  obtain ⟨-, o⟩ := tick_inv hI (by omega)
  have et := tick_1 h2
  have ot : ∀ i : Int, i ≠ 3 → tick f i = step f 0 i := fun i hi => by rw [et, zu_n hi]
  have e3 : tick f 3 = ((T + 1 : Nat) : Int) := by rw [et, zu_s, h3]; omega
  have tr' : Tr0 H (tick f) := ⟨by rw [o 0 (by omega) (by omega) (by omega) (by omega) (by omega) (by omega)]; exact tr.1, by rw [o 1 (by omega) (by omega) (by omega) (by omega) (by omega) (by omega)]; exact tr.2.1, fun k hk => ⟨by rw [o _ (by omega) (by omega) (by omega) (by omega) (by omega) (by omega)]; exact (tr.2.2 k hk).1, by rw [o _ (by omega) (by omega) (by omega) (by omega) (by omega) (by omega)]; exact (tr.2.2 k hk).2⟩⟩
  have h2' : tick f 2 = 1 := by rw [o 2 (by omega) (by omega) (by omega) (by omega) (by omega) (by omega)]; exact h2
  have hs' : tick f 4 = (fr : Int) ∧ tick f 5 = (dw : Int) ∧ tick f 6 = (gp : Int) ∧ tick f 7 = (ai : Int) := by
    rw [o 4 (by omega) (by omega) (by omega) (by omega) (by omega) (by omega), o 5 (by omega) (by omega) (by omega) (by omega) (by omega) (by omega), o 6 (by omega) (by omega) (by omega) (by omega) (by omega) (by omega), o 7 (by omega) (by omega) (by omega) (by omega) (by omega) (by omega)]
    exact ⟨h4, h5, h6, h7⟩
  have wo : ∀ (g : Int → Int) (i : Int), i < 79 ∨ 111 ≤ i → warms g 0 i = g i := fun g i hi => by unfold warms; exact put_n (by omega)
  -- what is left to say of a row that the train's part leaves
  have fin : ∀ (g : Int → Int) (u : U8) (D2 la2 : Nat), step f 0 = warms g 0 → TU (warms g 0) u → g 8 = (D2 : Int) → g 10 = (D2 : Int) → g 9 = (la2 : Int) - 1 → Sm f g → Lo f g ((c, sq, pr, wa, mo, sd, mv, vs), T, D, la) (u, T + 1, D2, la2) → Vw H fr dw gp ai (tick f) (u, T + 1, D2, la2) ∧ Lo f (tick f) ((c, sq, pr, wa, mo, sd, mv, vs), T, D, la) (u, T + 1, D2, la2) ∧ Sm f (tick f) := by
    intro g u D2 la2 hs hu g8 g10 g9 gw gl
    refine ⟨⟨tr', h2', hs', ⟨e3, ?_, ?_, ?_⟩, ?_⟩, ?_, fun i i0 i1 => ?_⟩
    · show tick f 8 = (D2 : Int)
      rw [ot 8 (by omega), hs, wo _ _ (by omega)]; exact g8
    · show tick f 10 = (D2 : Int)
      rw [ot 10 (by omega), hs, wo _ _ (by omega)]; exact g10
    · show tick f 9 = (la2 : Int) - 1
      rw [ot 9 (by omega), hs, wo _ _ (by omega)]; exact g9
    · rw [← hs] at hu
      exact TV_same hu (fun k k0 k1 => ot _ (by omega))
    · rcases gl with ⟨a1, a2, a3⟩ | ⟨a1, a2, a3⟩
      · exact Or.inl ⟨a1, a2, fun i i0 i1 => by rw [ot _ (by omega), hs, wo _ _ (by omega)]; exact a3 i i0 i1⟩
      · exact Or.inr ⟨a1, a2, fun i i0 i1 => by rw [ot _ (by omega), hs, wo _ _ (by omega)]; exact a3 i i0 i1⟩
    · rw [ot _ (by omega), hs]
      unfold warms
      rw [put_n (by omega)]
      exact gw i i0 i1
  have n10 : 0 ≤ f 10 ∧ f 10 ≤ 30 := by omega
  by_cases m1 : mo = 1
  · subst m1
    have em1 : f (79 + 8 * 0 + 4) = 1 := em
    have hst : step f 0 = warms (waits f 0) 0 := by unfold step; rw [if_pos em1]
    have hwy : whyOf f 0 = holds f 0 ((sd : Int) + 1) := by
      unfold whyOf
      rw [em1, es, if_neg (by omega), if_neg (by omega)]
    have hr := rel_5 (sd := sd) tr hW h2 em1 hc e0 h5 h6 h3 h9
    have t5 : TV (put f 0 5 (f (79 + 8 * 0 + 5) + 1)) (c : Int) (sq : Int) (pr : Int) (wa : Int) ((1 : Nat) : Int) ((sd + 1 : Nat) : Int) (mv : Int) (vs : Int) := by
      have k := TV_p5 (v := f (79 + 8 * 0 + 5) + 1) hU
      rw [es] at k ⊢
      exact k
    have p5 : ∀ i : Int, i < 79 ∨ 87 ≤ i → put f 0 5 (f (79 + 8 * 0 + 5) + 1) i = f i := fun i hi => put_n (by omega)
    rw [show stU H fr dw gp ai ((c, sq, pr, wa, 1, sd, mv, vs), T, D, la) = cond (relN dw gp c sd T la) ((c, 25, 0, warmN ai wa, 0, 0, mv, vs), T + 1, D + cond (Nat.beq c 0) 1 0, cond (Nat.beq c 0) (T + 1) la) ((c, sq, pr, warmN ai wa, 1, sd + 1, mv, vs), T + 1, D, la) from rfl]
    cases q : relN dw gp c sd T la with
    | true =>
      have w5 : whyOf f 0 = 5 := by rw [hwy]; exact hr.mp q
      have hg := waits_go hW (by omega) em1 n10 w5
      have tR := TV_runs t5
      have rn : ∀ i : Int, i < 79 ∨ 87 ≤ i → runs (put f 0 5 (f (79 + 8 * 0 + 5) + 1)) 0 i = f i := fun i hi => by
        unfold runs
        rw [put_n (by omega), put_n (by omega), put_n (by omega), put_n (by omega), p5 i hi]
      rw [e0, Tr0_blk tr hc] at hg
      generalize runs (put f 0 5 (f (79 + 8 * 0 + 5) + 1)) 0 = r at hg tR rn
      have r10 : 0 ≤ r 10 ∧ r 10 ≤ 30 := by rw [rn 10 (by omega)]; exact n10
      have wz := (bA_0 c hc).1
      by_cases c0 : c = 0
      · have b0 : ((bA c : Nat) : Int) = 0 := by have := wz.mpr c0; omega
        rw [if_pos b0] at hg
        have k := TU_w (sq := 25) (mo := 0) (sd := 0) (pr := 0) (ai := ai) (TV_disp tR r10) (by rw [disp_out r10 (by omega) (by omega) (by omega) (by omega), rn 7 (by omega)]; exact h7) (by omega)
        rw [if_pos rfl, show rtN 25 / 10 = 0 from by decide, Nat.add_zero] at k
        rw [show cond (Nat.beq c 0) 1 0 = 1 from by rw [cond_beq, if_pos c0], show cond (Nat.beq c 0) (T + 1) la = T + 1 from by rw [cond_beq, if_pos c0]]
        have rm := room30_10 r10
        rw [rn 10 (by omega), h10, if_neg (by omega)] at rm
        refine fin (dispatches r 0) _ (D + 1) (T + 1) (by rw [hst, hg]) k ?_ ?_ ?_ (fun i i0 i1 => ?_) (Or.inr ⟨rfl, rfl, fun i i0 i1 => ?_⟩)
        · unfold dispatches
          rw [logd_8, room30_out (by omega) (by omega), rn 8 (by omega), h8]; omega
        · unfold dispatches
          rw [logd_10, rm.1]; omega
        · unfold dispatches
          rw [logd_9, room30_out (by omega) (by omega), rn 3 (by omega), h3]; omega
        · rw [disp_out r10 (by omega) (by omega) (by omega) (by omega), rn _ (by omega)]
        · have e30 : room30 r = r := by unfold room30; rw [if_neg (by rw [rn 10 (by omega), h10]; omega)]
          unfold dispatches logd
          rw [e30, zu_n (by omega), zu_n (by omega), zu_n (by omega), rn 10 (by omega), rn 3 (by omega), h10, h3]
          show zu (zu r (111 + 2 * (D : Int)) (T : Int)) (111 + 2 * (D : Int) + 1) 0 i = zu (zu f (111 + 2 * (D : Int)) (T : Int)) (111 + 2 * (D : Int) + 1) 0 i
          unfold zu
          rw [rn i (by omega)]
      · have b0 : ¬ ((bA c : Nat) : Int) = 0 := fun z => c0 (wz.mp (by omega))
        rw [if_neg b0] at hg
        have k := TU_w (sq := 25) (mo := 0) (sd := 0) (pr := 0) (ai := ai) tR (by rw [rn 7 (by omega)]; exact h7) (by omega)
        rw [if_pos rfl, show rtN 25 / 10 = 0 from by decide, Nat.add_zero] at k
        rw [show cond (Nat.beq c 0) 1 0 = 0 from by rw [cond_beq, if_neg c0], show cond (Nat.beq c 0) (T + 1) la = la from by rw [cond_beq, if_neg c0]]
        exact fin r _ D la (by rw [hst, hg]) k (by rw [rn 8 (by omega)]; exact h8) (by rw [rn 10 (by omega)]; exact h10) (by rw [rn 9 (by omega)]; exact h9) (fun i i0 i1 => rn i (by omega)) (Or.inl ⟨rfl, rfl, fun i i0 i1 => rn i (by omega)⟩)
    | false =>
      have w5 : ¬ whyOf f 0 = 5 := fun z => by
        rw [hwy] at z
        rw [hr.mpr z] at q; cases q
      have hg := waits_no hW (by omega) em1 w5
      have k := TU_w (mo := 1) (ai := ai) t5 (by rw [p5 7 (by omega)]; exact h7) hsq
      rw [if_neg (by omega), Nat.add_zero] at k
      exact fin _ _ D la (by rw [hst, hg]) k (by rw [p5 8 (by omega)]; exact h8) (by rw [p5 10 (by omega)]; exact h10) (by rw [p5 9 (by omega)]; exact h9) (fun i i0 i1 => p5 i (by omega)) (Or.inl ⟨rfl, rfl, fun i i0 i1 => p5 i (by omega)⟩)
  · have em1 : ¬ f (79 + 8 * 0 + 4) = 1 := by rw [em]; omega
    by_cases m0 : mo = 0
    · subst m0
      have em0 : f (79 + 8 * 0 + 4) = 0 := em
      have hst : step f 0 = warms (goes f 0) 0 := by unfold step; rw [if_neg em1, if_pos em0]
      rw [show stU H fr dw gp ai ((c, sq, pr, wa, 0, sd, mv, vs), T, D, la) = (goU H fr ai c sq pr wa sd mv vs, T + 1, D, la) from rfl]
      have g2 : ∀ i : Int, 0 ≤ i → i < 71 → goes f 0 i = f i := fun i i0 i1 => by
        obtain ⟨T', D', B', hj, -, -⟩ := hJ
        exact goes_2 hj (by omega) ⟨i0, i1⟩
      exact fin (goes f 0) _ D la hst (goes_TU tr h4 h7 hJ hc hsq hU) (by rw [g2 8 (by omega) (by omega)]; exact h8) (by rw [g2 10 (by omega) (by omega)]; exact h10) (by rw [g2 9 (by omega) (by omega)]; exact h9) (fun i i0 i1 => by
        rcases i1 with i1 | i1
        · have k := goes_w hJ h2 (b := i - 71) (by omega)
          rw [show 71 + (i - 71) = i by omega] at k; exact k
        · exact goes_out hJ (by omega) (by omega) i1.2 (by omega)) (Or.inl ⟨rfl, rfl, fun i i0 i1 => goes_lg hJ (by omega) (Or.inr i0)⟩)
    · have em0 : ¬ f (79 + 8 * 0 + 4) = 0 := by rw [em]; omega
      have hst : step f 0 = warms f 0 := by unfold step; rw [if_neg em1, if_neg em0]
      have e : stU H fr dw gp ai ((c, sq, pr, wa, mo, sd, mv, vs), T, D, la) = ((c, sq, pr, warmN ai wa, mo, sd, mv, vs), T + 1, D, la) := by
        show cond (Nat.beq mo 1) _ (cond (Nat.beq mo 0) _ _) = _
        rw [cond_beq, if_neg m1, cond_beq, if_neg m0]
      rw [e]
      have k := TU_w (ai := ai) hU h7 hsq
      rw [if_neg m0, Nat.add_zero] at k
      exact fin f _ D la hst k h8 h10 h9 (fun i i0 i1 => rfl) (Or.inl ⟨rfl, rfl, fun i i0 i1 => rfl⟩)
/-! Many ticks, each number made out at each -/
def fN {α : Type} (n : Nat) (k : Nat → α) : α :=
  match n with
  | 0 => k 0
  | m + 1 => k (m + 1)
theorem fN_eq {α : Type} (n : Nat) (k : Nat → α) : fN n k = k n := by cases n <;> rfl
def fX {α : Type} (x : X11) (k : X11 → α) : α :=
  match x with
  | ((c, sq, pr, wa, mo, sd, mv, vs), T, D, la) => fN c fun c => fN sq fun sq => fN pr fun pr => fN wa fun wa => fN mo fun mo => fN sd fun sd => fN mv fun mv => fN vs fun vs => fN T fun T => fN D fun D => fN la fun la => k ((c, sq, pr, wa, mo, sd, mv, vs), T, D, la)
theorem fX_eq {α : Type} (x : X11) (k : X11 → α) : fX x k = k x := by
  obtain ⟨⟨c, sq, pr, wa, mo, sd, mv, vs⟩, T, D, la⟩ := x
  simp only [fX, fN_eq]
def runU (H fr dw gp ai : Nat) : Nat → X11 → X11
  | 0, x => x
  | n + 1, x => fX (stU H fr dw gp ai x) (fun y => runU H fr dw gp ai n y)
theorem runU_s (H fr dw gp ai n : Nat) (x : X11) : runU H fr dw gp ai (n + 1) x = runU H fr dw gp ai n (stU H fr dw gp ai x) := by
  simp only [runU, fX_eq]
theorem runU_e (H fr dw gp ai n : Nat) : ∀ x : X11, runU H fr dw gp ai (n + 1) x = stU H fr dw gp ai (runU H fr dw gp ai n x) := by
  induction n with
  | zero => intro x; rw [runU_s]; rfl
  | succ n ih => intro x; rw [runU_s, ih, ← runU_s]
theorem runU_a (H fr dw gp ai n m : Nat) : ∀ x : X11, runU H fr dw gp ai (n + m) x = runU H fr dw gp ai m (runU H fr dw gp ai n x) := by
  induction n with
  | zero => intro x; rw [Nat.zero_add]; rfl
  | succ n ih => intro x; rw [show n + 1 + m = (n + m) + 1 by omega, runU_s, ih, ← runU_s]
theorem stU_D (H fr dw gp ai : Nat) (x : X11) : x.2.2.1 ≤ (stU H fr dw gp ai x).2.2.1 := by
  obtain ⟨⟨c, sq, pr, wa, mo, sd, mv, vs⟩, T, D, la⟩ := x
  show D ≤ (cond (Nat.beq mo 1) (cond (relN dw gp c sd T la) ((c, 25, 0, warmN ai wa, 0, 0, mv, vs), T + 1, D + cond (Nat.beq c 0) 1 0, cond (Nat.beq c 0) (T + 1) la) ((c, sq, pr, warmN ai wa, 1, sd + 1, mv, vs), T + 1, D, la)) (cond (Nat.beq mo 0) (goU H fr ai c sq pr wa sd mv vs, T + 1, D, la) ((c, sq, pr, warmN ai wa, mo, sd, mv, vs), T + 1, D, la)) : X11).2.2.1
  cases Nat.beq mo 1 <;> cases relN dw gp c sd T la <;> cases Nat.beq mo 0 <;> simp
theorem runU_D (H fr dw gp ai n : Nat) (x : X11) : x.2.2.1 ≤ (runU H fr dw gp ai n x).2.2.1 := by
  induction n with
  | zero => exact Nat.le_refl _
  | succ n ih => rw [runU_e]; exact Nat.le_trans ih (stU_D _ _ _ _ _ _)
/-- what many ticks leave of the first row: the log too, where there was one dispatch at the most -/
def Rn (f g : Int → Int) (x y : X11) : Prop :=
  Sm f g ∧ x.2.2.1 ≤ y.2.2.1 ∧ (y.2.2.1 = x.2.2.1 → y.2.2.2 = x.2.2.2 ∧ ∀ i : Int, 111 ≤ i → i < 171 → g i = f i) ∧
  (y.2.2.1 = x.2.2.1 + 1 → ∀ i : Int, 111 ≤ i → i < 171 → g i = zu (zu f (111 + 2 * (x.2.2.1 : Int)) ((y.2.2.2 : Int) - 1)) (111 + 2 * (x.2.2.1 : Int) + 1) 0 i)
theorem run_Vw {H fr dw gp ai : Nat} {f : Int → Int} {x : X11} {N : Int} (h : Vw H fr dw gp ai f x) (hI : Inv N f) (n : Nat) (hN : N + n ≤ 108000) (hD : (runU H fr dw gp ai n x).2.2.1 < 30) : Vw H fr dw gp ai (ticks f n) (runU H fr dw gp ai n x) ∧ Rn f (ticks f n) x (runU H fr dw gp ai n x) := by
  induction n with
  | zero => exact ⟨h, fun i _ _ => rfl, Nat.le_refl _, fun _ => ⟨rfl, fun i _ _ => rfl⟩, fun z => absurd (show x.2.2.1 = x.2.2.1 + 1 from z) (by omega)⟩
  | succ n ih =>
    rw [runU_e] at hD ⊢
    have hm := stU_D H fr dw gp ai (runU H fr dw gp ai n x)
    obtain ⟨a, r1, r2, r3, r4⟩ := ih (by omega) (by omega)
    obtain ⟨b, c, d⟩ := tick_Vw a (ticks_inv hI n (by omega)).1 (by omega) (by omega)
    refine ⟨b, fun i i0 i1 => (d i i0 i1).trans (r1 i i0 i1), by omega, fun z => ?_, fun z => ?_⟩
    · rcases c with ⟨c1, c2, c3⟩ | ⟨c1, c2, c3⟩
      · obtain ⟨q1, q2⟩ := r3 (by omega)
        exact ⟨by rw [c2, q1], fun i i0 i1 => (c3 i i0 i1).trans (q2 i i0 i1)⟩
      · omega
    · intro i i0 i1
      rcases c with ⟨c1, c2, c3⟩ | ⟨c1, c2, c3⟩
      · rw [show ticks f (n + 1) i = tick (ticks f n) i from rfl, c3 i i0 i1, c2]
        exact r4 (by omega) i i0 i1
      · obtain ⟨q1, q2⟩ := r3 (by omega)
        rw [show ticks f (n + 1) i = tick (ticks f n) i from rfl, c3 i i0 i1, c2, show (runU H fr dw gp ai n x).2.2.1 = x.2.2.1 by omega, show (((runU H fr dw gp ai n x).2.1 + 1 : Nat) : Int) - 1 = ((runU H fr dw gp ai n x).2.1 : Int) by omega]
        unfold zu
        rw [q2 i i0 i1]
/-- the row behind many ticks with one dispatch at the most -/
def rowP (f : Int → Int) (x y : X11) : Int → Int := fun i =>
  if i = 3 then (y.2.1 : Int) else if i = 8 then (y.2.2.1 : Int) else if i = 9 then (y.2.2.2 : Int) - 1 else if i = 10 then (y.2.2.1 : Int) else
  if i < 79 then f i else if i = 79 then (y.1.1 : Int) else if i = 80 then (y.1.2.1 : Int) else if i = 81 then (y.1.2.2.1 : Int) else if i = 82 then (y.1.2.2.2.1 : Int) else if i = 83 then (y.1.2.2.2.2.1 : Int) else if i = 84 then (y.1.2.2.2.2.2.1 : Int) else if i = 85 then (y.1.2.2.2.2.2.2.1 : Int) else if i = 86 then (y.1.2.2.2.2.2.2.2 : Int) else
  if i < 111 then f i else if y.2.2.1 = x.2.2.1 then f i else zu (zu f (111 + 2 * (x.2.2.1 : Int)) ((y.2.2.2 : Int) - 1)) (111 + 2 * (x.2.2.1 : Int) + 1) 0 i
theorem run_row {H fr dw gp ai : Nat} {f : Int → Int} {x y : X11} {N : Int} (h : Vw H fr dw gp ai f x) (hI : Inv N f) (n : Nat) (hN : N + n ≤ 108000) (hy : runU H fr dw gp ai n x = y) (hD : y.2.2.1 < 30) (hD2 : y.2.2.1 ≤ x.2.2.1 + 1) : ∀ i : Int, 0 ≤ i → i < 171 → ticks f n i = rowP f x y i := by
  obtain ⟨⟨tr, h2, hs, ⟨h3, h8, h10, h9⟩, hU⟩, r1, r2, r3, r4⟩ := run_Vw h hI n hN (by rw [hy]; exact hD)
  have o := (ticks_inv hI n (by omega)).2
  rw [hy] at h3 h8 h10 h9 hU r2 r3 r4
  obtain ⟨⟨u0, u1, u2, u3⟩, u4, u5, u6, u7⟩ := hU
  intro i i0 i1
  unfold rowP
  by_cases q3 : i = 3
  · rw [if_pos q3, q3]; exact h3
  rw [if_neg q3]
  by_cases q8 : i = 8
  · rw [if_pos q8, q8]; exact h8
  rw [if_neg q8]
  by_cases q9 : i = 9
  · rw [if_pos q9, q9]; exact h9
  rw [if_neg q9]
  by_cases q10 : i = 10
  · rw [if_pos q10, q10]; exact h10
  rw [if_neg q10]
  by_cases q79 : i < 79
  · rw [if_pos q79]
    by_cases q71 : i < 71
    · exact o i i0 q71 q3 q8 q9 q10
    · exact r1 i (by omega) (Or.inl q79)
  rw [if_neg q79]
  by_cases k0 : i = 79
  · rw [if_pos k0, k0]; exact u0
  rw [if_neg k0]
  by_cases k1 : i = 80
  · rw [if_pos k1, k1]; exact u1
  rw [if_neg k1]
  by_cases k2 : i = 81
  · rw [if_pos k2, k2]; exact u2
  rw [if_neg k2]
  by_cases k3 : i = 82
  · rw [if_pos k3, k3]; exact u3
  rw [if_neg k3]
  by_cases k4 : i = 83
  · rw [if_pos k4, k4]; exact u4
  rw [if_neg k4]
  by_cases k5 : i = 84
  · rw [if_pos k5, k5]; exact u5
  rw [if_neg k5]
  by_cases k6 : i = 85
  · rw [if_pos k6, k6]; exact u6
  rw [if_neg k6]
  by_cases k7 : i = 86
  · rw [if_pos k7, k7]; exact u7
  rw [if_neg k7]
  by_cases k8 : i < 111
  · rw [if_pos k8]
    exact r1 i (by omega) (Or.inr (by omega))
  rw [if_neg k8]
  by_cases kd : y.2.2.1 = x.2.2.1
  · rw [if_pos kd]
    exact (r3 kd).2 i (by omega) i1
  · rw [if_neg kd]
    exact r4 (by omega) i (by omega) i1
/-! The questions, of one train -/
theorem md_of {H fr dw gp ai : Nat} {f : Int → Int} {x : X11} (h : Vw H fr dw gp ai f x) : f (79 + 8 * 0 + 4) = (x.1.2.2.2.2.1 : Int) ∧ f (79 + 8 * 0 + 7) = (x.1.2.2.2.2.2.2.2 : Int) := ⟨h.2.2.2.2.2.1, h.2.2.2.2.2.2.2.2⟩
theorem lyn_1 (f : Int → Int) : lyn f 1 = if f (79 + 8 * 0 + 4) = 2 then 1 else 0 := by
  show (0 : Int) + (if f (79 + 8 * 0 + 4) = 2 then 1 else 0) = _
  rw [Int.zero_add]
theorem lie_on {f : Int → Int} (hI : Inv 102000 f) {i j : Nat} (hij : i ≤ j) (hj : j ≤ 2000) (h : ticks f i (79 + 8 * 0 + 4) = 2) : ticks f j (79 + 8 * 0 + 4) = 2 := by
  induction j with
  | zero => rw [show i = 0 by omega] at h; exact h
  | succ j ih =>
    rcases Nat.lt_or_ge j i with z | z
    · rw [show j + 1 = i by omega]; exact h
    · exact (tick_mono (ticks_InvX hI j (by omega)) (u := 0) (by omega)).1 (ih z (by omega))
theorem visit_on {f : Int → Int} (hI : Inv 102000 f) {i j : Nat} (hij : i ≤ j) (hj : j ≤ 2000) : ticks f i (79 + 8 * 0 + 7) ≤ ticks f j (79 + 8 * 0 + 7) := by
  induction j with
  | zero => rw [show i = 0 by omega]; exact Int.le_refl _
  | succ j ih =>
    rcases Nat.lt_or_ge j i with z | z
    · rw [show j + 1 = i by omega]; exact Int.le_refl _
    · exact Int.le_trans (ih z (by omega)) (tick_mono (ticks_InvX hI j (by omega)) (u := 0) (by omega)).2
theorem valley_no {H fr dw gp ai : Nat} {f : Int → Int} {x y : X11} (h : Vw H fr dw gp ai f x) (hI : Inv 102000 f) (m : Nat) (hm : m ≤ 2000) (hy : runU H fr dw gp ai m x = y) (hD : y.2.2.1 < 30) (hq : y.1.2.2.2.2.1 ≠ 2) : toValley f (m : Int) = -1 := by
  have k := (run_Vw h hI m (by omega) (by rw [hy]; exact hD)).1
  rw [hy] at k
  have e := (md_of k).1
  refine toValley_miss (fun j hj => ?_)
  have n1 : ¬ ticks f j (79 + 8 * 0 + 4) = 2 := fun z => by
    have := lie_on hI hj hm z
    omega
  have n0 : ¬ f (79 + 8 * 0 + 4) = 2 := fun z => by
    have := lie_on hI (i := 0) (j := m) (by omega) hm z
    omega
  rw [h.2.1]
  show lyn (ticks f j) 1 = lyn f 1
  rw [lyn_1, lyn_1, if_neg n1, if_neg n0]
theorem valley_at {H fr dw gp ai : Nat} {f : Int → Int} {x y z : X11} (h : Vw H fr dw gp ai f x) (hI : Inv 102000 f) (i m : Nat) (hm : i < m) (hm2 : m ≤ 2000) (hy : runU H fr dw gp ai i x = y) (hz : stU H fr dw gp ai y = z) (hD : z.2.2.1 < 30) (hq : y.1.2.2.2.2.1 ≠ 2) (hq2 : z.1.2.2.2.2.1 = 2) : toValley f (m : Int) = ((i + 1 : Nat) : Int) := by
  have hyD : y.2.2.1 < 30 := by
    have := stU_D H fr dw gp ai y
    rw [hz] at this; omega
  have k := (run_Vw h hI i (by omega) (by rw [hy]; exact hyD)).1
  have k2 := (run_Vw h hI (i + 1) (by omega) (by rw [runU_e, hy, hz]; exact hD)).1
  rw [hy] at k
  rw [runU_e, hy, hz] at k2
  have e := (md_of k).1
  have e2 := (md_of k2).1
  have n0 : ∀ j : Nat, j ≤ i → ¬ ticks f j (79 + 8 * 0 + 4) = 2 := fun j hj w => by
    have := lie_on hI hj (by omega) w
    omega
  have n00 : ¬ f (79 + 8 * 0 + 4) = 2 := n0 0 (by omega)
  have L : (f 2).toNat = 1 := by rw [h.2.1]; rfl
  refine toValley_hit (fun j hj => ?_) hm ?_
  · rw [L, lyn_1, lyn_1, if_neg (n0 j hj), if_neg n00]
  · rw [L, lyn_1, lyn_1, if_neg n00, if_pos (by rw [e2, hq2]; rfl)]
    decide
theorem station_at {H fr dw gp ai : Nat} {f : Int → Int} {x y z : X11} (h : Vw H fr dw gp ai f x) (hI : Inv 102000 f) (i : Nat) (hm : i < 2000) (hy : runU H fr dw gp ai i x = y) (hz : stU H fr dw gp ai y = z) (hD : z.2.2.1 < 30) (hq : y.1.2.2.2.2.2.2.2 = x.1.2.2.2.2.2.2.2) (hq2 : x.1.2.2.2.2.2.2.2 < z.1.2.2.2.2.2.2.2) : toStation f 0 = ((i + 1 : Nat) : Int) := by
  have hyD : y.2.2.1 < 30 := by
    have := stU_D H fr dw gp ai y
    rw [hz] at this; omega
  have k := (run_Vw h hI i (by omega) (by rw [hy]; exact hyD)).1
  have k2 := (run_Vw h hI (i + 1) (by omega) (by rw [runU_e, hy, hz]; exact hD)).1
  rw [hy] at k
  rw [runU_e, hy, hz] at k2
  have e := (md_of k).2
  have e2 := (md_of k2).2
  have e0 := (md_of h).2
  refine toStation_hit (fun j hj => ?_) hm (by rw [e2, e0]; omega)
  have a := visit_on hI (i := 0) (j := j) (by omega) (by omega)
  have b := visit_on hI (i := j) (j := i) hj (by omega)
  have a' : f (79 + 8 * 0 + 7) ≤ ticks f j (79 + 8 * 0 + 7) := a
  omega
theorem station_no {H fr dw gp ai : Nat} {f : Int → Int} {x y : X11} (h : Vw H fr dw gp ai f x) (hI : Inv 102000 f) (hy : runU H fr dw gp ai 2000 x = y) (hD : y.2.2.1 < 30) (hq : y.1.2.2.2.2.2.2.2 = x.1.2.2.2.2.2.2.2) : toStation f 0 = -1 := by
  have k := (run_Vw h hI 2000 (by omega) (by rw [hy]; exact hD)).1
  rw [hy] at k
  have e := (md_of k).2
  have e0 := (md_of h).2
  refine toStation_miss (fun j hj => ?_)
  have a := visit_on hI (i := 0) (j := j) (by omega) (by omega)
  have b := visit_on hI (i := j) (j := 2000) hj (by omega)
  have a' : f (79 + 8 * 0 + 7) ≤ ticks f j (79 + 8 * 0 + 7) := a
  omega
theorem Vw_gap {H fr dw gp ai : Nat} {f : Int → Int} {x : X11} (h : Vw H fr dw gp ai f x) (g : Nat) : Vw H fr dw g ai (zu f 6 (g : Int)) x := by
  obtain ⟨tr, h2, ⟨h4, h5, h6, h7⟩, ⟨h3, h8, h10, h9⟩, hU⟩ := h
  refine ⟨⟨by rw [zu_n (by omega)]; exact tr.1, by rw [zu_n (by omega)]; exact tr.2.1, fun c hc => ⟨by rw [zu_n (by omega)]; exact (tr.2.2 c hc).1, by rw [zu_n (by omega)]; exact (tr.2.2 c hc).2⟩⟩, by rw [zu_n (by omega)]; exact h2, ⟨by rw [zu_n (by omega)]; exact h4, by rw [zu_n (by omega)]; exact h5, zu_s _ _ _, by rw [zu_n (by omega)]; exact h7⟩, ⟨by rw [zu_n (by omega)]; exact h3, by rw [zu_n (by omega)]; exact h8, by rw [zu_n (by omega)]; exact h10, by rw [zu_n (by omega)]; exact h9⟩, TV_same hU (fun k _ _ => zu_n (by omega))⟩
theorem Vw_fr {H fr dw gp ai : Nat} {f : Int → Int} {x : X11} (h : Vw H fr dw gp ai f x) (g : Nat) : Vw H g dw gp ai (zu f 4 (g : Int)) x := by
  obtain ⟨tr, h2, ⟨h4, h5, h6, h7⟩, ⟨h3, h8, h10, h9⟩, hU⟩ := h
  refine ⟨⟨by rw [zu_n (by omega)]; exact tr.1, by rw [zu_n (by omega)]; exact tr.2.1, fun c hc => ⟨by rw [zu_n (by omega)]; exact (tr.2.2 c hc).1, by rw [zu_n (by omega)]; exact (tr.2.2 c hc).2⟩⟩, by rw [zu_n (by omega)]; exact h2, ⟨zu_s _ _ _, by rw [zu_n (by omega)]; exact h5, by rw [zu_n (by omega)]; exact h6, by rw [zu_n (by omega)]; exact h7⟩, ⟨by rw [zu_n (by omega)]; exact h3, by rw [zu_n (by omega)]; exact h8, by rw [zu_n (by omega)]; exact h10, by rw [zu_n (by omega)]; exact h9⟩, TV_same hU (fun k _ _ => zu_n (by omega))⟩
theorem with_at {H fr dw gp ai : Nat} {f : Int → Int} {x y : X11} (h : Vw H fr dw gp ai f x) (hI : Inv 100000 f) (g : Nat) (hg : g ≤ 500) (hy : runU H fr dw g ai 1000 x = y) (hD : y.2.2.1 < 30) : dispWith f (g : Int) = (y.2.2.1 : Int) - (x.2.2.1 : Int) := by
  have k := (run_Vw (Vw_gap h g) (Inv_zu6 hI (by omega)) 1000 (by omega) (by rw [hy]; exact hD)).1
  rw [hy] at k
  unfold dispWith
  rw [k.2.2.2.1.2.1, h.2.2.2.1.2.1]
