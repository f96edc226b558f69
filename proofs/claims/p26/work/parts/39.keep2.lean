/-! What the calls keep -/
theorem Inv_ext {N : Int} {f g : Int → Int} (h : Inv N f) (e : ∀ i : Int, 0 ≤ i → i < 171 → g i = f i) : Inv N g := by
  obtain ⟨a, b⟩ := h
  have e3 := e 3 (by omega) (by omega)
  refine ⟨by rw [e3]; exact a, ?_⟩
  rw [e3]
  exact J_out b (fun i i0 i1 => e i i0 (by omega)) (fun i i0 i1 => e i (by omega) (by omega))
/-- what the standing facts read of the row -/
theorem Kp_off {f g : Int → Int} (h : Kp f) (hJ : Jy f) (h1 : g 1 = f 1) (h2 : g 2 = f 2) (h8 : ∀ i : Int, 8 ≤ i → i ≤ 10 → g i = f i) (hk : ∀ i : Int, 41 ≤ i → i < 71 → g i = f i) (ht : ∀ i : Int, 79 ≤ i → i < 171 → g i = f i) : Kp g := by
  obtain ⟨hW, hN, -⟩ := hJ.f
  have w2 := hW.2.2.1
  exact ⟨Ap_gen h.1 hW h1 h2 hk (fun u _ _ => ht _ (by omega) (by omega)) (fun u _ _ m => Or.inl (by rw [ht _ (by omega) (by omega)] at m; exact m)),
    Lg_congr h.2.1 hN.2.2.2.2.2.2.2 hN.2.2.2.2.2.1.1 h8 (fun i a b => ht i (by omega) b),
    Sd_congr h.2.2 h2 (fun u _ _ => Or.inl (fun m => by rw [ht _ (by omega) (by omega)] at m; exact ⟨m, ht _ (by omega) (by omega)⟩))⟩
theorem Kp_ext {f g : Int → Int} (h : Kp f) (hJ : Jy f) (e : ∀ i : Int, 0 ≤ i → i < 171 → g i = f i) : Kp g :=
  Kp_off h hJ (e 1 (by omega) (by omega)) (e 2 (by omega) (by omega)) (fun i a b => e i (by omega) (by omega)) (fun i a b => e i (by omega) (by omega)) (fun i a b => e i (by omega) b)
theorem rel_ext {f g : Int → Int} {R : Nat → Int → Int} (h : Rel f R) (hW : Wf f) (hN : Ns f) (e : ∀ i : Int, 0 ≤ i → i < 171 → g i = f i) : Rel g R := by
  obtain ⟨⟨a1, a2, a3, a4, a5⟩, b, c, ⟨d1, d2, d3, d4⟩, et, l⟩ := h
  have w0 := hW.1; have w1 := hW.2.1; have w2 := hW.2.2.1
  have n10 := hN.2.2.2.2.2.2.2
  refine ⟨⟨by rw [e 0 (by omega) (by omega)]; exact a1, by rw [e 1 (by omega) (by omega)]; exact a2, by rw [e 2 (by omega) (by omega)]; exact a3, by rw [e 3 (by omega) (by omega)]; exact a4, by rw [e 8 (by omega) (by omega)]; exact a5⟩, fun q q0 q1 => ?_, fun q q0 q1 => ?_,
    ⟨by rw [e 4 (by omega) (by omega)]; exact d1, by rw [e 5 (by omega) (by omega)]; exact d2, by rw [e 6 (by omega) (by omega)]; exact d3, by rw [e 7 (by omega) (by omega)]; exact d4⟩, fun u hu k k0 k1 => ?_, fun i i0 i1 => ?_⟩
  · rw [e 0 (by omega) (by omega)] at q1
    rw [e _ (by omega) (by omega), e _ (by omega) (by omega), blockAt_congr (f := f) (by omega) (e 1 (by omega) (by omega)) (fun i _ _ => e i (by omega) (by omega))]
    exact b q q0 q1
  · rw [e 1 (by omega) (by omega)] at q1
    rw [brakeOf_congr (f := f) (fun i _ _ => e i (by omega) (by omega)), e _ (by omega) (by omega)]
    exact c q q0 q1
  · rw [e 2 (by omega) (by omega)] at hu
    rw [e _ (by omega) (by omega)]
    exact et u hu k k0 k1
  · rw [e 10 (by omega) (by omega)] at i1
    rw [e 8 (by omega) (by omega), e 10 (by omega) (by omega), e _ (by omega) (by omega), e _ (by omega) (by omega)]
    exact l i i0 i1
theorem Inv_off {N : Int} {f g : Int → Int} (h : Inv N f) (h0 : g 0 = f 0) (h1 : g 1 = f 1) (h2 : 0 ≤ g 2 ∧ g 2 ≤ 4) (h3 : g 3 = f 3) (h4 : 0 ≤ g 4 ∧ g 4 ≤ 20) (h5 : 1 ≤ g 5 ∧ g 5 ≤ 50) (h6 : 0 ≤ g 6 ∧ g 6 ≤ 500) (h7 : 0 ≤ g 7 ∧ g 7 ≤ 40) (h8 : ∀ i : Int, 8 ≤ i → i ≤ 10 → g i = f i)
    (hh : ∀ c : Int, 0 ≤ c → c < 30 → 0 ≤ g (11 + c) ∧ g (11 + c) ≤ 9) (hk : ∀ i : Int, 41 ≤ i → i < 71 → g i = f i) (ht : ∀ i : Int, 79 ≤ i → i < 111 → g i = f i) : Inv N g := by
  obtain ⟨a, ⟨b0, b1, b2, b3, b4, b5, b6⟩, hS, hT⟩ := h
  obtain ⟨-, -, -, -, s3, s8, s9, s10⟩ := hS
  have e8 := h8 8 (by omega) (by omega)
  have e9 := h8 9 (by omega) (by omega)
  have e10 := h8 10 (by omega) (by omega)
  refine ⟨by rw [h3]; exact a, ⟨by rw [h0]; exact b0, by rw [h1]; exact b1, h2, ?_, fun c c0 c1 => by rw [hk _ (by omega) (by omega)]; exact b4 c c0 c1, hh, fun t t0 t1 => ?_⟩, ?_, fun t t0 t1 => ⟨?_, by rw [h3]; exact (hT t t0 t1).2⟩⟩
  · rw [h0, h1, cnt_congr (f := f) (fun k hk2 => hk _ (by omega) (by omega))]; exact b3
  · rw [h0, ht (79 + 8 * t + 0) (by omega) (by omega), ht (79 + 8 * t + 4) (by omega) (by omega)]; exact b6 t t0 t1
  · unfold Sn
    rw [h3, e8, e9, e10]
    exact ⟨h4, h5, h6, h7, ⟨rfl, s3.2⟩, s8, s9, s10⟩
  · have k := (hT t t0 t1).1
    unfold Tn at k ⊢
    rw [ht (79 + 8 * t + 1) (by omega) (by omega), ht (79 + 8 * t + 2) (by omega) (by omega), ht (79 + 8 * t + 3) (by omega) (by omega), ht (79 + 8 * t + 5) (by omega) (by omega), ht (79 + 8 * t + 7) (by omega) (by omega), h3]
    exact k
theorem Inv_Jy {N : Int} {f : Int → Int} (h : Inv N f) : Jy f := ⟨_, _, _, h.2⟩
/-- a train taken off -/
theorem take_keep {N : Int} {f : Int → Int} (h : Inv N f) (k : Kp f) (h2 : f 2 ≠ 0) : Inv N (zu f 2 (f 2 - 1)) ∧ Kp (zu f 2 (f 2 - 1)) := by
  obtain ⟨hW, hN, -⟩ := (Inv_Jy h).f
  have w0 := hW.1; have w2 := hW.2.2.1
  have o : ∀ i : Int, i ≠ 2 → zu f 2 (f 2 - 1) i = f i := fun i hi => zu_n hi
  have o2 : zu f 2 (f 2 - 1) 2 = f 2 - 1 := zu_s _ _ _
  obtain ⟨n3, n4, n5, n6, n7, n8, n9, n10⟩ := id hN
  refine ⟨Inv_off h (o 0 (by omega)) (o 1 (by omega)) (by rw [o2]; omega) (o 3 (by omega)) (by rw [o 4 (by omega)]; exact n4) (by rw [o 5 (by omega)]; exact n5) (by rw [o 6 (by omega)]; exact n6) (by rw [o 7 (by omega)]; exact n7) (fun i _ _ => o i (by omega)) (fun c c0 c1 => by rw [o _ (by omega)]; exact hW.2.2.2.2.2.1 c c0 c1) (fun i _ _ => o i (by omega)) (fun i _ _ => o i (by omega)), ?_, ?_, ?_⟩
  · have bl : ∀ u : Int, 0 ≤ u → u < 4 → blockAt (zu f 2 (f 2 - 1)) (zu f 2 (f 2 - 1) (79 + 8 * u + 0)) = blockAt f (f (79 + 8 * u + 0)) := fun u u0 u1 => by
      have := (hW.2.2.2.2.2.2 u u0 u1).1
      rw [o _ (by omega), blockAt_congr (f := f) (by omega) (o 1 (by omega)) (fun i _ _ => o i (by omega))]
    have nb : ∀ b : Int, nextB (zu f 2 (f 2 - 1)) b = nextB f b := fun b => by unfold nextB; rw [o 1 (by omega)]
    refine ⟨fun t u t0 t1 u0 u1 q => ?_, fun t u t0 t1 u0 u1 m br => ?_⟩
    · rw [o2] at t1 u1
      rw [bl t t0 (by omega), bl u u0 (by omega)] at q
      exact k.1.1 t u t0 (by omega) u0 (by omega) q
    · rw [o2] at t1 u1
      have ct := (hW.2.2.2.2.2.2 t t0 (by omega)).1
      rw [bl t t0 (by omega), bl u u0 (by omega), nb]
      rw [o _ (by omega)] at m
      rw [o (79 + 8 * t + 0) (by omega), o _ (by omega)] at br
      exact k.1.2 t u t0 (by omega) u0 (by omega) m br
  · exact Lg_congr k.2.1 n10 n8.1 (fun i _ _ => o i (by omega)) (fun i _ _ => o i (by omega))
  · intro t t0 t1 m
    rw [o2] at t1
    rw [o _ (by omega)] at m ⊢
    exact k.2.2 t t0 (by omega) m
/-- a number set -/
theorem set_keep {N w v : Int} {f : Int → Int} (h : Inv N f) (k : Kp f) (hw : 0 ≤ w ∧ w ≤ 3) (hv : canBe w v = true) : Inv N (zu f (4 + w) v) ∧ Kp (zu f (4 + w) v) := by
  obtain ⟨hW, hN, -⟩ := (Inv_Jy h).f
  obtain ⟨n3, n4, n5, n6, n7, n8, n9, n10⟩ := id hN
  have hv2 : (w = 0 ∧ 0 ≤ v ∧ v ≤ 20) ∨ (w = 1 ∧ 1 ≤ v ∧ v ≤ 50) ∨ (w = 2 ∧ 0 ≤ v ∧ v ≤ 500) ∨ (w = 3 ∧ 0 ≤ v ∧ v ≤ 40) := by simpa [canBe] using hv
  have o : ∀ i : Int, i ≠ 4 + w → zu f (4 + w) v i = f i := fun i hi => zu_n hi
  have os : ∀ i : Int, i = 4 + w → zu f (4 + w) v i = v := fun i hi => by rw [hi, zu_s]
  refine ⟨Inv_off h (o 0 (by omega)) (o 1 (by omega)) (by rw [o 2 (by omega)]; exact hW.2.2.1) (o 3 (by omega)) ?_ ?_ ?_ ?_ (fun i _ _ => o i (by omega)) (fun c c0 c1 => by rw [o _ (by omega)]; exact hW.2.2.2.2.2.1 c c0 c1) (fun i _ _ => o i (by omega)) (fun i _ _ => o i (by omega)),
    Kp_off k (Inv_Jy h) (o 1 (by omega)) (o 2 (by omega)) (fun i _ _ => o i (by omega)) (fun i _ _ => o i (by omega)) (fun i _ _ => o i (by omega))⟩
  · by_cases q : w = 0
    · rw [os 4 (by omega)]; omega
    · rw [o 4 (by omega)]; exact n4
  · by_cases q : w = 1
    · rw [os 5 (by omega)]; omega
    · rw [o 5 (by omega)]; exact n5
  · by_cases q : w = 2
    · rw [os 6 (by omega)]; omega
    · rw [o 6 (by omega)]; exact n6
  · by_cases q : w = 3
    · rw [os 7 (by omega)]; omega
    · rw [o 7 (by omega)]; exact n7
/-- a height set -/
theorem hgt_keep {N c z : Int} {f : Int → Int} (h : Inv N f) (k : Kp f) (hc : 0 ≤ c ∧ c < f 0) (hz : 0 ≤ z ∧ z ≤ 9) : Inv N (zu f (11 + c) z) ∧ Kp (zu f (11 + c) z) := by
  obtain ⟨hW, hN, -⟩ := (Inv_Jy h).f
  have w0 := hW.1
  obtain ⟨n3, n4, n5, n6, n7, n8, n9, n10⟩ := id hN
  have o : ∀ i : Int, i ≠ 11 + c → zu f (11 + c) z i = f i := fun i hi => zu_n hi
  refine ⟨Inv_off h (o 0 (by omega)) (o 1 (by omega)) (by rw [o 2 (by omega)]; exact hW.2.2.1) (o 3 (by omega)) (by rw [o 4 (by omega)]; exact n4) (by rw [o 5 (by omega)]; exact n5) (by rw [o 6 (by omega)]; exact n6) (by rw [o 7 (by omega)]; exact n7) (fun i _ _ => o i (by omega)) (fun d d0 d1 => ?_) (fun i _ _ => o i (by omega)) (fun i _ _ => o i (by omega)),
    Kp_off k (Inv_Jy h) (o 1 (by omega)) (o 2 (by omega)) (fun i _ _ => o i (by omega)) (fun i _ _ => o i (by omega)) (fun i _ _ => o i (by omega))⟩
  by_cases q : d = c
  · rw [q, zu_s]; exact hz
  · rw [o _ (by omega)]; exact hW.2.2.2.2.2.1 d d0 d1
/-- ticks passed -/
theorem ticks_keep {N : Int} {f : Int → Int} (h : Inv N f) (k : Kp f) (n : Nat) (hn : N + n ≤ 109000) : Kp (ticks f n) := by
  induction n with
  | zero => exact k
  | succ n ih =>
    show Kp (tick (ticks f n))
    exact Kp_tick (ih (by omega)) ⟨N + n, (ticks_inv h n (by omega)).1, by omega⟩
/-- a track read -/
theorem parsed_keep {N : Int} {f x : Int → Int} {n : Nat} (h : Inv N f) (h0 : 0 ≤ N) (hn : n ≤ 30) (hf : fst' x (2 * n) = -1) (h4 : 4 ≤ n) (h2 : 2 ≤ brs x (2 * n)) : Inv N (parsed f x n) ∧ Kp (parsed f x n) := by
  have hW := parsed_hi f x hn hf h4 h2
  obtain ⟨p0, p1, p2, p3⟩ := parsed_at f x n hn
  obtain ⟨-, hN, -⟩ := (Inv_Jy h).f
  obtain ⟨n3, n4, n5, n6, n7, n8, n9, n10⟩ := id hN
  have q : ∀ i : Int, 2 ≤ i → i < 171 → (i < 4 ∨ i = 8 ∨ i = 10 ∨ 71 ≤ i) → parsed f x n i = 0 := fun i i0 i1 hi => by
    rw [p3 i i0 i1 (by omega), begun_at f (by omega) (by omega), if_neg (by omega), if_neg (by omega)]
  have q4 : ∀ i : Int, 4 ≤ i → i ≤ 7 → parsed f x n i = f i := fun i i0 i1 => by
    rw [p3 i (by omega) (by omega) (by omega), begun_at f (by omega) (by omega), if_neg (by omega), if_pos ⟨i0, i1⟩]
  have q9 : parsed f x n 9 = -1 := by rw [p3 9 (by omega) (by omega) (by omega), begun_at f (by omega) (by omega), if_pos rfl]
  have q2 := q 2 (by omega) (by omega) (by omega)
  have q3 := q 3 (by omega) (by omega) (by omega)
  have q8 := q 8 (by omega) (by omega) (by omega)
  have q10 := q 10 (by omega) (by omega) (by omega)
  refine ⟨⟨by rw [q3]; exact h0, hW, ?_, fun t t0 t1 => ⟨?_, by show parsed f x n 3 ≤ 120000; omega⟩⟩, ⟨fun t u t0 t1 => by omega, fun t u t0 t1 => by omega⟩, ⟨by rw [q10, q8]; rfl, fun _ => q9, fun z => by omega⟩, fun t t0 t1 => by omega⟩
  · unfold Sn
    rw [q4 4 (by omega) (by omega), q4 5 (by omega) (by omega), q4 6 (by omega) (by omega), q4 7 (by omega) (by omega), q3, q8, q9, q10]
    omega
  · have z : ∀ k : Int, 0 ≤ k → k < 8 → parsed f x n (79 + 8 * t + k) = 0 := fun k k0 k1 => q _ (by omega) (by omega) (by omega)
    unfold Tn
    rw [z 1 (by omega) (by omega), z 2 (by omega) (by omega), z 3 (by omega) (by omega), z 5 (by omega) (by omega), z 7 (by omega) (by omega)]
    show (0 ≤ (0 : Int) ∧ (0 : Int) ≤ 9999) ∧ (0 ≤ (0 : Int) ∧ (0 : Int) ≤ 99) ∧ (0 ≤ (0 : Int) ∧ (0 : Int) ≤ 100) ∧ (0 ≤ (0 : Int) ∧ 0 ≤ parsed f x n 3) ∧ (0 ≤ (0 : Int) ∧ 0 ≤ parsed f x n 3)
    omega
