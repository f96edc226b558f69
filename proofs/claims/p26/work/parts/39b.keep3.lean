/-! A train put on, a train rescued; what ticks never undo -/
theorem addT_out {f : Int → Int} {b i : Int} (hi : i ≠ 2) (h : i < 79 + 8 * f 2 ∨ 79 + 8 * f 2 + 8 ≤ i) : addT f b i = f i := by
  unfold addT stands
  rw [put_n (by omega), put_n (by omega), put_n (by omega), put_n (by omega), put_n (by omega), put_n (by omega), put_n (by omega), put_n (by omega), zu_n hi]
theorem addT_2 {f : Int → Int} {b : Int} (h : 0 ≤ f 2) : addT f b 2 = f 2 + 1 := by
  unfold addT stands
  rw [put_n (by omega), put_n (by omega), put_n (by omega), put_n (by omega), put_n (by omega), put_n (by omega), put_n (by omega), put_n (by omega), zu_s]
theorem addT_in {f : Int → Int} {b k : Int} (hk : k = 0 ∨ k = 4 ∨ k = 5) : addT f b (79 + 8 * f 2 + k) = if k = 0 then brakeOf f b else if k = 4 then 1 else 0 := by
  unfold addT
  rw [stands_cm hk, if_pos rfl]
  rcases hk with rfl | rfl | rfl
  · rw [if_neg (by omega), if_neg (by omega), if_pos rfl, put_n (by omega), put_n (by omega), put_n (by omega), put_s]
  · rw [if_pos rfl, if_neg (by omega), if_pos rfl]
  · rw [if_neg (by omega), if_pos rfl, if_neg (by omega), if_neg (by omega)]
theorem Inv_zu2 {N v : Int} {f : Int → Int} (h : Inv N f) (hv : 0 ≤ v ∧ v ≤ 4) : Inv N (zu f 2 v) := by
  obtain ⟨hW, hN, -⟩ := (Inv_Jy h).f
  obtain ⟨n3, n4, n5, n6, n7, n8, n9, n10⟩ := id hN
  have o : ∀ i : Int, i ≠ 2 → zu f 2 v i = f i := fun i hi => zu_n hi
  exact Inv_off h (o 0 (by omega)) (o 1 (by omega)) (by rw [zu_s]; omega) (o 3 (by omega)) (by rw [o 4 (by omega)]; exact n4) (by rw [o 5 (by omega)]; exact n5) (by rw [o 6 (by omega)]; exact n6) (by rw [o 7 (by omega)]; exact n7) (fun i _ _ => o i (by omega)) (fun c c0 c1 => by rw [o _ (by omega)]; exact hW.2.2.2.2.2.1 c c0 c1) (fun i _ _ => o i (by omega)) (fun i _ _ => o i (by omega))
theorem ahead_next {f : Int → Int} (hW : Wf f) {b : Int} (hb : 0 ≤ b ∧ b < f 1) : ahead f (nextB f b) = b := by
  have w1 := hW.2.1
  unfold ahead nextB
  by_cases q : b + 1 = f 1
  · rw [if_pos q, if_pos rfl]; omega
  · rw [if_neg q, if_neg (by omega)]; omega
theorem add_keep {N b : Int} {f : Int → Int} (h : Inv N f) (k : Kp f) (hb : 0 ≤ b ∧ b < f 1) (h4 : f 2 < 4) (hf : isFree f b = true) : Inv N (addT f b) ∧ Kp (addT f b) := by
  obtain ⟨hW, hN, hT⟩ := (Inv_Jy h).f
  have w0 := hW.1; have w1 := hW.2.1; have w2 := hW.2.2.1
  obtain ⟨n3, n4, n5, n6, n7, n8, n9, n10⟩ := id hN
  obtain ⟨b0, b1, b2, b3⟩ := brakeOf_spec hW hb
  have bb := blockAt_brake hW hb
  obtain ⟨f1, f2⟩ := isFree_iff.mp hf
  have o : ∀ i : Int, i ≠ 2 → (i < 79 + 8 * f 2 ∨ 79 + 8 * f 2 + 8 ≤ i) → addT f b i = f i := fun i h1 h2 => addT_out h1 h2
  have o2 : addT f b 2 = f 2 + 1 := addT_2 (by omega)
  have i2 : Inv N (zu f 2 (f 2 + 1)) := Inv_zu2 h (by omega)
  have tq : 0 ≤ f 2 ∧ f 2 < 4 := ⟨w2.1, h4⟩
  refine ⟨⟨by rw [o 3 (by omega) (by omega)]; exact h.1, ?_⟩, ?_, ?_, ?_⟩
  · rw [o 3 (by omega) (by omega)]
    have e3 : zu f 2 (f 2 + 1) 3 = f 3 := zu_n (by omega)
    have e0 : zu f 2 (f 2 + 1) 0 = f 0 := zu_n (by omega)
    have j := i2.2
    rw [e3] at j
    unfold addT
    have p0 : J (put (zu f 2 (f 2 + 1)) (f 2) 0 (brakeOf f b)) (f 3) (4 * f 3) (fun _ => f 3) := J_put j tq (by omega) (fun _ => by rw [e0]; omega) (by omega) (by omega) (by omega) (by omega) (by omega) (by omega)
    have p3 : J (put (put (zu f 2 (f 2 + 1)) (f 2) 0 (brakeOf f b)) (f 2) 3 (f 7)) (f 3) (4 * f 3) (fun _ => f 3) := J_put p0 tq (by omega) (by omega) (by omega) (by omega) (fun _ => by omega) (by omega) (by omega) (by omega)
    have p6 := J_put (w := 6) (v := 0) p3 tq (by omega) (by omega) (by omega) (by omega) (by omega) (by omega) (by omega) (by omega)
    have p7 := J_put (w := 7) (v := 0) p6 tq (by omega) (by omega) (by omega) (by omega) (by omega) (by omega) (by omega) (fun _ => ⟨by omega, by show 0 ≤ f 3; omega⟩)
    exact J_stands p7 tq
  · have bl : ∀ c : Int, c ≤ 30 → blockAt (addT f b) c = blockAt f c := fun c hc => blockAt_congr hc (o 1 (by omega) (by omega)) (fun i _ _ => o i (by omega) (by omega))
    have nb : ∀ x : Int, nextB (addT f b) x = nextB f x := fun x => by unfold nextB; rw [o 1 (by omega) (by omega)]
    have cu : ∀ u : Int, 0 ≤ u → u < f 2 → addT f b (79 + 8 * u + 0) = f (79 + 8 * u + 0) := fun u u0 u1 => o _ (by omega) (by omega)
    have cn : addT f b (79 + 8 * f 2 + 0) = brakeOf f b := by rw [addT_in (Or.inl rfl), if_pos rfl]
    have mn : addT f b (79 + 8 * f 2 + 4) = 1 := by rw [addT_in (Or.inr (Or.inl rfl)), if_neg (by omega), if_pos rfl]
    have rg : ∀ u : Int, 0 ≤ u → u < f 2 → 0 ≤ f (79 + 8 * u + 0) ∧ f (79 + 8 * u + 0) < f 0 := fun u u0 u1 => (hW.2.2.2.2.2.2 u u0 (by omega)).1
    have bu : ∀ u : Int, 0 ≤ u → u < f 2 → blockAt (addT f b) (addT f b (79 + 8 * u + 0)) = blockAt f (f (79 + 8 * u + 0)) := fun u u0 u1 => by
      have := rg u u0 u1
      rw [cu u u0 u1, bl _ (by omega)]
    have bn : blockAt (addT f b) (addT f b (79 + 8 * f 2 + 0)) = b := by rw [cn, bl _ (by omega), bb]
    refine ⟨fun t u t0 t1 u0 u1 q => ?_, fun t u t0 t1 u0 u1 m br => ?_⟩
    · rw [o2] at t1 u1
      rcases Int.lt_or_le t (f 2) with a | a
      · rcases Int.lt_or_le u (f 2) with c | c
        · rw [bu t t0 a, bu u u0 c] at q
          exact k.1.1 t u t0 a u0 c q
        · rw [show u = f 2 by omega, bu t t0 a, bn] at q
          exact absurd q (trainIn_none f1 t0 a)
      · rcases Int.lt_or_le u (f 2) with c | c
        · rw [show t = f 2 by omega, bu u u0 c, bn] at q
          exact absurd q.symm (trainIn_none f1 u0 c)
        · omega
    · rw [o2] at t1 u1
      rcases Int.lt_or_le t (f 2) with a | a
      · have rt := rg t t0 a
        rw [o (79 + 8 * t + 4) (by omega) (by omega)] at m
        rw [cu t t0 a, o _ (by omega) (by omega)] at br
        rw [bu t t0 a, nb]
        rcases Int.lt_or_le u (f 2) with c | c
        · rw [bu u u0 c]; exact k.1.2 t u t0 a u0 c m br
        · rw [show u = f 2 by omega, bn]
          intro q
          have ba := blockAt_rng hW rt
          have ea := ahead_next hW ba
          rw [← q] at ea
          have eb := brakeOf_block hW rt br
          obtain ⟨j, rfl⟩ : ∃ j : Nat, t = (j : Int) := ⟨t.toNat, by omega⟩
          exact (nob_all.mp f2) j (by omega) ⟨m, by rw [ea, eb]⟩
      · rw [show t = f 2 by omega, mn] at m
        omega
  · exact Lg_congr k.2.1 n10 n8.1 (fun i _ _ => o i (by omega) (by omega)) (fun i _ _ => o i (by omega) (by omega))
  · intro t t0 t1 m
    rw [o2] at t1
    rcases Int.lt_or_le t (f 2) with a | a
    · rw [o _ (by omega) (by omega)] at m ⊢
      exact k.2.2 t t0 a m
    · rw [show t = f 2 by omega, addT_in (Or.inr (Or.inr rfl)), if_neg (by omega), if_neg (by omega)]
theorem res_keep {N t : Int} {f : Int → Int} (h : Inv N f) (k : Kp f) (ht : 0 ≤ t ∧ t < f 2) : Inv N (resT f t) ∧ Kp (resT f t) := by
  obtain ⟨hW, hN, hT⟩ := (Inv_Jy h).f
  have w0 := hW.1; have w1 := hW.2.1; have w2 := hW.2.2.1
  obtain ⟨n3, n4, n5, n6, n7, n8, n9, n10⟩ := id hN
  have t4 : 0 ≤ t ∧ t < 4 := by omega
  have ct := (hW.2.2.2.2.2.2 t t4.1 t4.2).1
  have bt := blockAt_rng hW ct
  obtain ⟨b0, b1, b2, b3⟩ := brakeOf_spec hW bt
  have bb := blockAt_brake hW bt
  have o : ∀ i : Int, (i < 79 + 8 * t ∨ 79 + 8 * t + 8 ≤ i) → resT f t i = f i := fun i hi => by
    unfold resT stands
    rw [put_n (by omega), put_n (by omega), put_n (by omega), put_n (by omega), put_n (by omega)]
  have cm : ∀ u q : Int, (q = 0 ∨ q = 4 ∨ q = 5) → 0 ≤ u → resT f t (79 + 8 * u + q) = if u = t then (if q = 4 then 1 else if q = 5 then 0 else brakeOf f (blockAt f (f (79 + 8 * t + 0)))) else f (79 + 8 * u + q) := fun u q hq u0 => by
    unfold resT
    rw [stands_cm hq]
    by_cases z : u = t
    · rw [if_pos z, if_pos z]
      rcases hq with rfl | rfl | rfl
      · rw [if_neg (by omega), if_neg (by omega), if_neg (by omega), if_neg (by omega), z, put_s]
      · rw [if_pos rfl, if_pos rfl]
      · rw [if_neg (by omega), if_pos rfl, if_neg (by omega), if_pos rfl]
    · rw [if_neg z, if_neg z, put_n (by omega)]
  have bl : ∀ c : Int, c ≤ 30 → blockAt (resT f t) c = blockAt f c := fun c hc => blockAt_congr hc (o 1 (by omega)) (fun i _ _ => o i (by omega))
  have nb : ∀ x : Int, nextB (resT f t) x = nextB f x := fun x => by unfold nextB; rw [o 1 (by omega)]
  have bu : ∀ u : Int, 0 ≤ u → u < f 2 → blockAt (resT f t) (resT f t (79 + 8 * u + 0)) = blockAt f (f (79 + 8 * u + 0)) := fun u u0 u1 => by
    have := (hW.2.2.2.2.2.2 u u0 (by omega)).1
    rw [cm u 0 (Or.inl rfl) u0]
    by_cases z : u = t
    · rw [if_pos z, if_neg (by omega), if_neg (by omega), bl _ (by omega), bb, z]
    · rw [if_neg z, bl _ (by omega)]
  refine ⟨⟨by rw [o 3 (by omega)]; exact h.1, ?_⟩, ⟨fun a u a0 a1 u0 u1 q => ?_, fun a u a0 a1 u0 u1 m br => ?_⟩, ?_, ?_⟩
  · rw [o 3 (by omega)]
    unfold resT
    exact J_stands (J_put h.2 t4 (by omega) (fun _ => by omega) (by omega) (by omega) (by omega) (by omega) (by omega) (by omega)) t4
  · rw [o 2 (by omega)] at a1 u1
    rw [bu a a0 a1, bu u u0 u1] at q
    exact k.1.1 a u a0 a1 u0 u1 q
  · rw [o 2 (by omega)] at a1 u1
    rw [bu a a0 a1, bu u u0 u1, nb]
    rw [cm a 4 (Or.inr (Or.inl rfl)) a0] at m
    by_cases z : a = t
    · rw [if_pos z, if_pos rfl] at m; omega
    · rw [if_neg z] at m
      have := (hW.2.2.2.2.2.2 a a0 (by omega)).1
      rw [cm a 0 (Or.inl rfl) a0, if_neg z, o _ (by omega)] at br
      exact k.1.2 a u a0 a1 u0 u1 m br
  · exact Lg_congr k.2.1 n10 n8.1 (fun i _ _ => o i (by omega)) (fun i _ _ => o i (by omega))
  · intro a a0 a1 m
    rw [o 2 (by omega)] at a1
    rw [cm a 5 (Or.inr (Or.inr rfl)) a0]
    rw [cm a 4 (Or.inr (Or.inl rfl)) a0] at m
    by_cases z : a = t
    · rw [if_pos z, if_neg (by omega), if_pos rfl]
    · rw [if_neg z] at m ⊢
      exact k.2.2 a a0 a1 m
