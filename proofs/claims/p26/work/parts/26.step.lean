theorem comes_hi {f : Int → Int} {t i : Int} (hW : Wf f) (ht : 0 ≤ t ∧ t < 4) (hi : 111 ≤ i) : comes f t i = f i := by
  have hb := blockAt_rng hW (hW.2.2.2.2.2.2 t ht.1 ht.2).1
  have w1 := hW.2.1
  unfold comes stands
  rw [put_n (by omega), zu_n (by omega), put_n (by omega), put_n (by omega), put_n (by omega), put_n (by omega)]
theorem came_hi {f : Int → Int} {t i sq : Int} (ht : 0 ≤ t ∧ t < 4) (hi : 111 ≤ i) : came f t sq i = f i := by
  unfold came
  rw [put_n (by omega), put_n (by omega), put_n (by omega)]
theorem lies_hi {f : Int → Int} {t i : Int} (ht : 0 ≤ t ∧ t < 4) (hi : 111 ≤ i) : lies f t i = f i := by
  unfold lies
  rw [put_n (by omega), put_n (by omega), put_n (by omega)]
theorem Kp_moves {f : Int → Int} {t : Int} (h : Kp f) (hJ : Jx f) (ht : 0 ≤ t ∧ t < f 2) (hm : f (79 + 8 * t + 4) = 0) : Kp (moves f t) := by
  obtain ⟨hW, hN, -⟩ := hJ.f
  have n8 := hN.2.2.2.2.2.1; have n10 := hN.2.2.2.2.2.2.2; have w2 := hW.2.2.1
  have ht4 : 0 ≤ t ∧ t < 4 := by omega
  have le := squareOn_le f (f (79 + 8 * t + 0)) (after f (f (79 + 8 * t + 0))) (f (79 + 8 * t + 1)) (drag f t)
  unfold moves
  by_cases c1 : squareOn f (f (79 + 8 * t + 0)) (after f (f (79 + 8 * t + 0))) (f (79 + 8 * t + 1)) (drag f t) < 0
  · rw [if_pos c1]
    exact Kp_lies h hJ.y ht (by omega)
  · rw [if_neg c1]
    generalize squareOn f (f (79 + 8 * t + 0)) (after f (f (79 + 8 * t + 0))) (f (79 + 8 * t + 1)) (drag f t) = sq at c1 le
    have hc := hJ.came (t := t) (sq := sq) ht4 (by omega)
    have hcW := hc.f.1
    by_cases c2 : f (41 + after f (f (79 + 8 * t + 0))) = 2
    · rw [if_pos c2]
      have o : ∀ i : Int, 0 ≤ i → i < 71 → comes (came f t sq) t i = f i := fun i a b => by rw [comes_2 ht.1 hcW ht4.2 ⟨a, b⟩, came_2 ht.1 (by omega)]
      refine ⟨Ap_move (t := t) h.1 hW ht.1 ht.2 hm (o 1 (by omega) (by omega)) (o 2 (by omega) (by omega)) (fun i a b => o i (by omega) b) ?_ (fun u u0 u1 q => ?_) (fun u u0 u1 q m => ?_) (fun m => ?_), ?_, ?_⟩
      · rw [comes_cm hcW ht4 ht.1 (Or.inl rfl), if_pos rfl, if_neg (by omega), if_neg (by omega), came_cm (Or.inl rfl), if_pos ⟨rfl, rfl⟩]
      · rw [comes_cm hcW ht4 u0 (Or.inl rfl), if_neg q, came_cm (Or.inl rfl), if_neg (fun z => q z.1)]
      · rw [comes_cm hcW ht4 u0 (Or.inr (Or.inl rfl)), if_neg q, came_cm (Or.inr (Or.inl rfl)), if_neg (fun z => q z.1)] at m; exact m
      · rw [comes_cm hcW ht4 ht.1 (Or.inr (Or.inl rfl)), if_pos rfl, if_pos rfl] at m; omega
      · exact Lg_congr h.2.1 n10 n8.1 (fun i a b => o i (by omega) (by omega)) (fun i a b => by rw [comes_hi hcW ht4 a, came_hi ht4 a])
      · refine Sd_congr h.2.2 (o 2 (by omega) (by omega)) (fun u u0 u1 => ?_)
        by_cases q : u = t
        · exact Or.inr (by rw [comes_cm hcW ht4 u0 (Or.inr (Or.inr rfl)), if_pos q, if_neg (by omega), if_pos rfl])
        · exact Or.inl (fun m => by
            rw [comes_cm hcW ht4 u0 (Or.inr (Or.inl rfl)), if_neg q, came_cm (Or.inr (Or.inl rfl)), if_neg (fun z => q z.1)] at m
            exact ⟨m, by rw [comes_cm hcW ht4 u0 (Or.inr (Or.inr rfl)), if_neg q, came_cm (Or.inr (Or.inr rfl)), if_neg (fun z => q z.1)]⟩)
    · rw [if_neg c2]
      have o : ∀ i : Int, i < 79 → came f t sq i = f i := fun i a => came_2 ht.1 a
      have hK : Kp (came f t sq) := by
        refine ⟨Ap_move (t := t) h.1 hW ht.1 ht.2 hm (o 1 (by omega)) (o 2 (by omega)) (fun i a b => o i (by omega)) ?_ (fun u u0 u1 q => ?_) (fun u u0 u1 q m => ?_) (fun _ => c2), ?_, ?_⟩
        · rw [came_cm (Or.inl rfl), if_pos ⟨rfl, rfl⟩]
        · rw [came_cm (Or.inl rfl), if_neg (fun z => q z.1)]
        · rw [came_cm (Or.inr (Or.inl rfl)), if_neg (fun z => q z.1)] at m; exact m
        · exact Lg_congr h.2.1 n10 n8.1 (fun i a b => o i (by omega)) (fun i a b => came_hi ht4 a)
        · refine Sd_congr h.2.2 (o 2 (by omega)) (fun u u0 u1 => Or.inl (fun m => ?_))
          rw [came_cm (Or.inr (Or.inl rfl)), if_neg (fun z => by omega)] at m
          exact ⟨m, by rw [came_cm (Or.inr (Or.inr rfl)), if_neg (fun z => by omega)]⟩
      by_cases c3 : sq = 0 ∧ ¬ f (41 + after f (f (79 + 8 * t + 0))) = 1
      · rw [if_pos c3]
        exact Kp_lies hK hc.y ⟨ht.1, by rw [o 2 (by omega)]; exact ht.2⟩ (by rw [came_cm (Or.inr (Or.inl rfl)), if_neg (fun z => by omega)]; omega)
      · rw [if_neg c3]; exact hK
theorem tri_congr {f g : Int → Int} {b : Int} (hW : Wf f) (h1 : g 1 = f 1) (hk : ∀ i : Int, 41 ≤ i → i < 71 → g i = f i) (hc : ∀ u : Int, 0 ≤ u → u < f 2 → g (79 + 8 * u + 0) = f (79 + 8 * u + 0)) : ∀ n : Nat, (n : Int) ≤ f 2 → tri g b n = tri f b n := by
  have w0 := hW.1; have w2 := hW.2.2.1
  intro n
  induction n with
  | zero => intro _; rfl
  | succ n ih =>
    intro hn
    have c := (hW.2.2.2.2.2.2 (n : Int) (by omega) (by omega)).1
    simp only [tri]
    rw [ih (by omega), hc _ (by omega) (by omega), blockAt_congr (by omega) h1 hk]
theorem trainIn_congr {f g : Int → Int} {b : Int} (hW : Wf f) (h1 : g 1 = f 1) (h2 : g 2 = f 2) (hk : ∀ i : Int, 41 ≤ i → i < 71 → g i = f i) (hc : ∀ u : Int, 0 ≤ u → u < f 2 → g (79 + 8 * u + 0) = f (79 + 8 * u + 0)) : trainIn g b = trainIn f b := by
  have w2 := hW.2.2.1
  unfold trainIn
  rw [h2]
  exact tri_congr hW h1 hk hc _ (by omega)
theorem nob_congr {f g : Int → Int} {br : Int} {n : Nat} (hc : ∀ u : Int, 0 ≤ u → u < (n : Int) → g (79 + 8 * u + 0) = f (79 + 8 * u + 0) ∧ g (79 + 8 * u + 4) = f (79 + 8 * u + 4)) : nob g br n = nob f br n := by
  induction n with
  | zero => rfl
  | succ n ih =>
    simp only [nob]
    rw [ih (fun u a b => hc u a (by omega)), (hc (n : Int) (by omega) (by omega)).1, (hc (n : Int) (by omega) (by omega)).2]
theorem isFree_congr {f g : Int → Int} {b : Int} (hW : Wf f) (h1 : g 1 = f 1) (h2 : g 2 = f 2) (hk : ∀ i : Int, 41 ≤ i → i < 71 → g i = f i) (hc : ∀ u : Int, 0 ≤ u → u < f 2 → g (79 + 8 * u + 0) = f (79 + 8 * u + 0) ∧ g (79 + 8 * u + 4) = f (79 + 8 * u + 4)) : isFree g b = isFree f b := by
  have w2 := hW.2.2.1
  unfold isFree
  rw [trainIn_congr hW h1 h2 hk (fun u a b => (hc u a b).1), h2]
  rw [brakeOf_congr (f := f) hk]
  rw [show ahead g b = ahead f b from by unfold ahead; rw [h1], nob_congr (f := f) (fun u a b => hc u a (by omega))]
theorem Kp_waits {f : Int → Int} {t : Int} (h : Kp f) (hJ : Jx f) (ht : 0 ≤ t ∧ t < f 2) (hm : f (79 + 8 * t + 4) = 1) : Kp (waits f t) := by
  obtain ⟨hW, hN, hT⟩ := hJ.f
  have n8 := hN.2.2.2.2.2.1; have n10 := hN.2.2.2.2.2.2.2; have w2 := hW.2.2.1
  have ht4 : 0 ≤ t ∧ t < 4 := by omega
  obtain ⟨T, D, B, h9, hD, hB⟩ := hJ
  have k5 := (h9.2.2 t ht4.1 ht4.2).1.2.2.2.1
  have b5 := hB t ht4.1 ht4.2
  have j1 : Jy (put f t 5 (f (79 + 8 * t + 5) + 1)) := ⟨T, D, fun u => B u + 1, J_put (J_B h9 (fun u a b => by have := hB u a b; omega)) ht4 (by omega) (by omega) (by omega) (by omega) (by omega) (by omega) (by omega) (by omega)⟩
  have j2 : Jy (dispatches (put f t 5 (f (79 + 8 * t + 5) + 1)) t) := ⟨T, D + 1, fun u => B u + 1, J_dispatches (J_put (J_B h9 (fun u a b => by have := hB u a b; omega)) ht4 (by omega) (by omega) (by omega) (by omega) (by omega) (by omega) (by omega) (by omega)) (by omega)⟩
  have k1 := waits_p5 (v := f (79 + 8 * t + 5) + 1) h ⟨T, D, B, h9⟩ ht hm
  unfold waits
  by_cases c : holds (put f t 5 (f (79 + 8 * t + 5) + 1)) t (f (79 + 8 * t + 5) + 1) = 5
  · rw [if_pos c]
    have e := (isFree_iff.mp (holds_5 c)).1
    have p2 : put f t 5 (f (79 + 8 * t + 5) + 1) 2 = f 2 := put_n (by omega)
    generalize put f t 5 (f (79 + 8 * t + 5) + 1) = g at *
    have n10' : 0 ≤ g 10 ∧ g 10 ≤ 30 := j1.f.2.1.2.2.2.2.2.2.2
    split
    · have o : ∀ i : Int, i < 111 → i ≠ 8 → i ≠ 9 → i ≠ 10 → dispatches g t i = g i := fun i a b c d => disp_out n10' a b c d
      have gW := j1.f.1
      have gc := gW.2.2.2.2.2.2 t ht4.1 ht4.2
      have g0 := gW.1
      refine Kp_runs (Kp_disp k1 j1) j2 ⟨ht.1, by rw [o 2 (by omega) (by omega) (by omega) (by omega)]; omega⟩ ?_
      rw [o _ (by omega) (by omega) (by omega) (by omega), blockAt_congr (f := g) (by omega) (o 1 (by omega) (by omega) (by omega) (by omega)) (fun i _ _ => o i (by omega) (by omega) (by omega) (by omega)),
        show nextB (dispatches g t) (blockAt g (g (79 + 8 * t + 0))) = nextB g (blockAt g (g (79 + 8 * t + 0))) from by unfold nextB; rw [o 1 (by omega) (by omega) (by omega) (by omega)],
        trainIn_congr gW (o 1 (by omega) (by omega) (by omega) (by omega)) (o 2 (by omega) (by omega) (by omega) (by omega)) (fun i _ _ => o i (by omega) (by omega) (by omega) (by omega)) (fun u _ _ => o _ (by have := gW.2.2.1; omega) (by omega) (by omega) (by omega))]
      exact e
    · exact Kp_runs k1 j1 ⟨ht.1, by omega⟩ e
  · rw [if_neg c]; exact k1
theorem Kp_goes {f : Int → Int} {t : Int} (h : Kp f) (hJ : Jx f) (ht : 0 ≤ t ∧ t < f 2) (hm : f (79 + 8 * t + 4) = 0) : Kp (goes f t) := by
  have w2 := hJ.f.1.2.2.1
  have ht4 : 0 ≤ t ∧ t < 4 := by omega
  have hb : 0 ≤ by' f t ∧ by' f t ≤ 99 := by obtain ⟨_, _, _, h9, _⟩ := hJ; exact by_rng h9 ht4
  have k := (hJ.f.2.2 t ht4.1 ht4.2).2.1
  unfold goes
  split
  · exact Kp_put h hJ.y ht4 (by omega) (by omega) (by omega) (by omega)
  · rw [put_put]
    exact Kp_moves (Kp_put h hJ.y ht4 (by omega) (by omega) (by omega) (by omega)) (hJ.put2 ht4 (by omega)) ⟨ht.1, by rw [put_n (by omega)]; exact ht.2⟩ (by rw [put_n (by omega)]; exact hm)
theorem Kp_step {f : Int → Int} {t : Int} (h : Kp f) (hJ : Jx f) (ht : 0 ≤ t ∧ t < f 2) : Kp (step f t) := by
  have w2 := hJ.f.1.2.2.1
  have ht4 : 0 ≤ t ∧ t < 4 := by omega
  unfold step warms
  split
  · rename_i q
    exact Kp_put (Kp_waits h hJ ht q) (hJ.wait ht4) ht4 (by omega) (by omega) (by omega) (by omega)
  · split
    · rename_i q
      exact Kp_put (Kp_goes h hJ ht q) (hJ.goes ht4) ht4 (by omega) (by omega) (by omega) (by omega)
    · exact Kp_put h hJ.y ht4 (by omega) (by omega) (by omega) (by omega)
theorem Kp_steps {f : Int → Int} (h : Kp f) (hI : InvX f) (n : Nat) (hn : (n : Int) ≤ f 2) : Kp (steps f n) := by
  have w2 := hI.J.f.1.2.2.1
  induction n with
  | zero => exact h
  | succ n ih =>
    obtain ⟨a, b⟩ := steps_Jx hI n (by omega)
    simp only [steps]
    exact Kp_step (ih (by omega)) a ⟨by omega, by rw [b 2 (by omega) (by omega) (by omega) (by omega) (by omega)]; omega⟩
theorem Kp_tick {f : Int → Int} (h : Kp f) (hI : InvX f) : Kp (tick f) := by
  have w2 := hI.J.f.1.2.2.1
  have k := Kp_steps h hI (f 2).toNat (by omega)
  have j := (steps_Jx hI (f 2).toNat (by omega)).1
  have hN := j.f.2.1
  have o : ∀ i : Int, i ≠ 3 → tick f i = steps f (f 2).toNat i := fun i hi => zu_n hi
  refine ⟨Ap_gen k.1 j.f.1 (o _ (by omega)) (o _ (by omega)) (fun i _ _ => o _ (by omega)) (fun u _ _ => o _ (by omega)) (fun u _ _ m => Or.inl (by rw [o _ (by omega)] at m; exact m)), ?_, ?_⟩
  · exact Lg_congr k.2.1 hN.2.2.2.2.2.2.2 hN.2.2.2.2.2.1.1 (fun i _ _ => o _ (by omega)) (fun i _ _ => o _ (by omega))
  · exact Sd_congr k.2.2 (o _ (by omega)) (fun u _ _ => Or.inl (fun m => by rw [o _ (by omega)] at m; exact ⟨m, o _ (by omega)⟩))
/-! ## the relation behind a change -/
theorem rel_eq {f g : Int → Int} {R : Nat → Int → Int} (h : Rel f R) (e : g = f) : Rel g R := by rw [e]; exact h
/-- a train's row is another one -/
theorem rel_train {f g : Int → Int} {R : Nat → Int → Int} {w : Int → Int} {t : Nat} (h : Rel f R) (hW : Wf f) (ht : (t : Int) < f 2) (o : ∀ i : Int, i < 79 + 8 * (t : Int) ∨ 79 + 8 * (t : Int) + 8 ≤ i → g i = f i) (hi : ∀ k : Int, 0 ≤ k → k < 8 → w k = g (79 + 8 * (t : Int) + k)) : Rel g (uc R (8 + t) w) := by
  obtain ⟨⟨a1, a2, a3, a4, a5⟩, b, c, ⟨d1, d2, d3, d4⟩, e, l⟩ := h
  have w0 := hW.1; have w1 := hW.2.1; have w2 := hW.2.2.1
  have n : ∀ j : Nat, j < 8 ∨ 12 ≤ j → uc R (8 + t) w j = R j := fun j hj => uc_n (by omega)
  refine ⟨⟨?_, ?_, ?_, ?_, ?_⟩, fun q q0 q1 => ?_, fun q q0 q1 => ?_, ⟨?_, ?_, ?_, ?_⟩, fun u hu k k0 k1 => ?_, fun i i0 i1 => ?_⟩
  · rw [n 1 (by omega), o 0 (by omega)]; exact a1
  · rw [n 1 (by omega), o 1 (by omega)]; exact a2
  · rw [n 0 (by omega), o 2 (by omega)]; exact a3
  · rw [n 0 (by omega), o 3 (by omega)]; exact a4
  · rw [n 0 (by omega), o 8 (by omega)]; exact a5
  · rw [o 0 (by omega)] at q1
    rw [n 2 (by omega), n 3 (by omega), n 4 (by omega), o _ (by omega), o _ (by omega), blockAt_congr (f := f) (by omega) (o 1 (by omega)) (fun i _ _ => o i (by omega))]
    exact b q q0 q1
  · rw [o 1 (by omega)] at q1
    rw [n 5 (by omega), n 12 (by omega), o _ (by omega), brakeOf_congr (f := f) (fun i _ _ => o i (by omega))]
    exact c q q0 q1
  · rw [n 7 (by omega), o 4 (by omega)]; exact d1
  · rw [n 7 (by omega), o 5 (by omega)]; exact d2
  · rw [n 7 (by omega), o 6 (by omega)]; exact d3
  · rw [n 7 (by omega), o 7 (by omega)]; exact d4
  · rw [o 2 (by omega)] at hu
    by_cases q : u = t
    · subst q; rw [uc_s]; exact hi k k0 k1
    · rw [uc_n (by omega), o _ (by omega)]; exact e u hu k k0 k1
  · rw [o 10 (by omega)] at i1
    rw [n 13 (by omega), n 14 (by omega), o 8 (by omega), o 10 (by omega), o _ (by omega), o _ (by omega)]
    exact l i i0 i1
/-- a dispatch is put into the log -/
theorem rel_disp {f : Int → Int} {R : Nat → Int → Int} {t : Int} (h : Rel f R) (hG : Lg f) (hN : Ns f) (hW : Wf f) :
    Rel (dispatches f t) (uc (uc (uc R 0 (zu (R 0) 2 (R 0 2 + 1))) 13 (zu (R 13) (f 8 % 30) (f 3))) 14 (zu (R 14) (f 8 % 30) t)) := by
  obtain ⟨⟨a1, a2, a3, a4, a5⟩, b, c, ⟨d1, d2, d3, d4⟩, e, l⟩ := h
  obtain ⟨n3, n4, n5, n6, n7, n8, n9, n10⟩ := id hN
  obtain ⟨g1, g2, g3⟩ := hG
  have w0 := hW.1; have w1 := hW.2.1; have w2 := hW.2.2.1
  have o : ∀ i : Int, i < 111 → i ≠ 8 → i ≠ 9 → i ≠ 10 → dispatches f t i = f i := fun i a b c d => disp_out n10 a b c d
  have r := room30_10 n10
  have e8 : dispatches f t 8 = f 8 + 1 := by unfold dispatches; rw [logd_8, room30_out (by omega) (by omega)]
  have e10 : dispatches f t 10 = room30 f 10 + 1 := by unfold dispatches; rw [logd_10]
  have lo : ∀ i : Int, 111 ≤ i → i ≠ 111 + 2 * room30 f 10 → i ≠ 111 + 2 * room30 f 10 + 1 → dispatches f t i = room30 f i := fun i i0 i1 i2 => by
    unfold dispatches logd
    rw [zu_n (by omega), zu_n (by omega), zu_n (by omega), zu_n i2, zu_n i1]
  have l0 : dispatches f t (111 + 2 * room30 f 10) = f 3 := by
    unfold dispatches logd
    rw [zu_n (by omega), zu_n (by omega), zu_n (by omega), zu_n (by omega), zu_s, room30_out (by omega) (by omega)]
  have l1 : dispatches f t (111 + 2 * room30 f 10 + 1) = t := by
    unfold dispatches logd
    rw [zu_n (by omega), zu_n (by omega), zu_n (by omega), zu_s]
  refine ⟨⟨?_, ?_, ?_, ?_, ?_⟩, fun q q0 q1 => ?_, fun q q0 q1 => ?_, ⟨?_, ?_, ?_, ?_⟩, fun u hu k k0 k1 => ?_, fun i i0 i1 => ?_⟩
  · rw [o 0 (by omega) (by omega) (by omega) (by omega)]; exact a1
  · rw [o 1 (by omega) (by omega) (by omega) (by omega)]; exact a2
  · rw [o 2 (by omega) (by omega) (by omega) (by omega)]; exact a3
  · rw [o 3 (by omega) (by omega) (by omega) (by omega)]; exact a4
  · rw [e8]; show zu (R 0) 2 (R 0 2 + 1) 2 = _; rw [zu_s, a5]
  · rw [o 0 (by omega) (by omega) (by omega) (by omega)] at q1
    rw [o _ (by omega) (by omega) (by omega) (by omega), o _ (by omega) (by omega) (by omega) (by omega), blockAt_congr (f := f) (by omega) (o 1 (by omega) (by omega) (by omega) (by omega)) (fun i _ _ => o i (by omega) (by omega) (by omega) (by omega))]
    exact b q q0 q1
  · rw [o 1 (by omega) (by omega) (by omega) (by omega)] at q1
    rw [o _ (by omega) (by omega) (by omega) (by omega), brakeOf_congr (f := f) (fun i _ _ => o i (by omega) (by omega) (by omega) (by omega))]
    exact c q q0 q1
  · rw [o 4 (by omega) (by omega) (by omega) (by omega)]; exact d1
  · rw [o 5 (by omega) (by omega) (by omega) (by omega)]; exact d2
  · rw [o 6 (by omega) (by omega) (by omega) (by omega)]; exact d3
  · rw [o 7 (by omega) (by omega) (by omega) (by omega)]; exact d4
  · rw [o 2 (by omega) (by omega) (by omega) (by omega)] at hu
    rw [uc_n (by omega), uc_n (by omega), uc_n (by omega), o _ (by omega) (by omega) (by omega) (by omega)]
    exact e u hu k k0 k1
  · rw [e10] at i1
    rw [e8, e10, uc_n (by omega), uc_s, uc_s]
    by_cases q : i = 0
    · subst q
      rw [show f 8 + 1 - 1 - 0 = f 8 by omega, zu_s, zu_s, show room30 f 10 + 1 - 1 - 0 = room30 f 10 by omega, l0, l1]
      exact ⟨rfl, rfl⟩
    · have hne : (f 8 + 1 - 1 - i) % 30 ≠ f 8 % 30 := by omega
      have k := l (i - 1) (by omega) (by rw [r.1] at i1; split at i1 <;> omega)
      rw [zu_n hne, zu_n hne, show f 8 + 1 - 1 - i = f 8 - 1 - (i - 1) by omega, k.1, k.2, lo _ (by omega) (by omega) (by omega), lo _ (by omega) (by omega) (by omega)]
      by_cases z : f 10 = 30
      · have r1 : room30 f 10 = 29 := by rw [r.1, if_pos z]
        rw [r1, room30_hi (by omega) (by omega), room30_hi (by omega) (by omega), if_pos z, if_pos z, z]
        exact ⟨by congr 1; omega, by congr 1; omega⟩
      · have r1 : room30 f 10 = f 10 := by rw [r.1, if_neg z]
        rw [r1, room30_hi (by omega) (by omega), room30_hi (by omega) (by omega), if_neg z, if_neg z]
        exact ⟨by congr 1; omega, by congr 1; omega⟩
/-- a train that has just begun to run, and the log -/
theorem runs_disp {f : Int → Int} {t : Int} (ht : 0 ≤ t ∧ t < 4) (h10 : 0 ≤ f 10 ∧ f 10 ≤ 30) : runs (dispatches f t) t = dispatches (runs f t) t := by
  have ro : ∀ (g : Int → Int) (i : Int), i < 79 ∨ 111 ≤ i → runs g t i = g i := fun g i hi => by unfold runs; rw [put_n (by omega), put_n (by omega), put_n (by omega), put_n (by omega)]
  have r10 : runs f t 10 = f 10 := ro f 10 (by omega)
  have sh : ∀ (n : Nat) (i : Int), i < 79 ∨ 111 ≤ i → shl (runs f t) n i = shl f n i := by
    intro n
    induction n with
    | zero => intro i hi; exact ro f i hi
    | succ n ih =>
      intro i hi
      simp only [shl]
      by_cases e : i = 111 + (n : Int)
      · subst e; rw [zu_s, zu_s, ih _ (by omega)]
      · rw [zu_n e, zu_n e, ih i hi]
  have rm : ∀ i : Int, i < 79 ∨ 111 ≤ i → room30 (runs f t) i = room30 f i := fun i hi => by
    unfold room30
    rw [r10]
    by_cases e : f 10 = 30
    · rw [if_pos e, if_pos e]
      by_cases e2 : i = 10
      · subst e2; rw [zu_s, zu_s, sh 58 10 (by omega)]
      · rw [zu_n e2, zu_n e2, sh 58 i hi]
    · rw [if_neg e, if_neg e, ro f i hi]
  have k := room30_10 h10
  funext i
  by_cases hi : i < 79 ∨ 111 ≤ i
  · rw [ro _ i hi]
    unfold dispatches logd
    rw [rm 10 (by omega), rm 3 (by omega), rm 8 (by omega)]
    unfold zu
    repeat' split
    all_goals first | rfl | exact (rm i hi).symm
  · have e : dispatches (runs f t) t i = runs f t i := disp_out (by rw [r10]; exact h10) (by omega) (by omega) (by omega) (by omega)
    rw [e]
    have d : ∀ j : Int, 79 ≤ j → j < 111 → dispatches f t j = f j := fun j a b => disp_out h10 b (by omega) (by omega) (by omega)
    unfold runs put
    unfold zu
    repeat' split
    all_goals first | rfl | exact d i (by omega) (by omega)
