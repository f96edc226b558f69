/-! What ticks never undo: a train that lies, and a train's visits -/
theorem waits_out {f : Int → Int} {t i : Int} (hk : 0 ≤ f 10 ∧ f 10 ≤ 30) (ht : 0 ≤ t) (h0 : 79 ≤ i) (h1 : i < 111) (h : i < 79 + 8 * t ∨ 79 + 8 * t + 8 ≤ i) : waits f t i = f i := by
  have q : 0 ≤ put f t 5 (f (79 + 8 * t + 5) + 1) 10 ∧ put f t 5 (f (79 + 8 * t + 5) + 1) 10 ≤ 30 := by rw [put_n (by omega)]; exact hk
  unfold waits
  split
  · unfold runs
    rw [put_n (by omega), put_n (by omega), put_n (by omega), put_n (by omega)]
    split
    · rw [disp_out q (by omega) (by omega) (by omega) (by omega), put_n (by omega)]
    · rw [put_n (by omega)]
  · rw [put_n (by omega)]
theorem stands_out {f : Int → Int} {t i : Int} (h : i < 79 + 8 * t ∨ 79 + 8 * t + 8 ≤ i) : stands f t i = f i := by
  unfold stands
  rw [put_n (by omega), put_n (by omega), put_n (by omega), put_n (by omega)]
theorem moves_out {f : Int → Int} {t i : Int} (hJ : Jx f) (ht : 0 ≤ t ∧ t < 4) (h0 : 79 ≤ i) (h1 : i < 111) (h : i < 79 + 8 * t ∨ 79 + 8 * t + 8 ≤ i) : moves f t i = f i := by
  have le := squareOn_le f (f (79 + 8 * t + 0)) (after f (f (79 + 8 * t + 0))) (f (79 + 8 * t + 1)) (drag f t)
  have lo : ∀ g : Int → Int, lies g t i = g i := fun g => by unfold lies; rw [put_n (by omega), put_n (by omega), put_n (by omega)]
  have co : ∀ sq : Int, came f t sq i = f i := fun sq => by unfold came; rw [put_n (by omega), put_n (by omega), put_n (by omega)]
  unfold moves
  split
  · exact lo f
  · rename_i c1
    generalize squareOn f (f (79 + 8 * t + 0)) (after f (f (79 + 8 * t + 0))) (f (79 + 8 * t + 1)) (drag f t) = sq at c1 le
    have hc := hJ.came (t := t) (sq := sq) ht (by omega)
    have hW := hc.f.1
    split
    · have bb := blockAt_rng hW (hW.2.2.2.2.2.2 t ht.1 ht.2).1
      have w1 := hW.2.1
      have := co sq
      unfold comes
      rw [put_n (by omega), zu_n (by omega), stands_out h, this]
    · split
      · rw [lo, co]
      · exact co sq
theorem goes_out {f : Int → Int} {t i : Int} (hJ : Jx f) (ht : 0 ≤ t ∧ t < 4) (h0 : 79 ≤ i) (h1 : i < 111) (h : i < 79 + 8 * t ∨ 79 + 8 * t + 8 ≤ i) : goes f t i = f i := by
  have hb : 0 ≤ by' f t ∧ by' f t ≤ 99 := by obtain ⟨_, _, _, h9, _⟩ := hJ; exact by_rng h9 ht
  have k := (hJ.f.2.2 t ht.1 ht.2).2.1
  unfold goes
  split
  · rw [put_n (by omega)]
  · rw [put_put, moves_out (hJ.put2 ht (by omega)) ht h0 h1 h, put_n (by omega)]
theorem step_out {f : Int → Int} {t i : Int} (hJ : Jx f) (ht : 0 ≤ t ∧ t < 4) (h0 : 79 ≤ i) (h1 : i < 111) (h : i < 79 + 8 * t ∨ 79 + 8 * t + 8 ≤ i) : step f t i = f i := by
  have n10 := hJ.f.2.1.2.2.2.2.2.2.2
  unfold step warms
  rw [put_n (by omega)]
  split
  · exact waits_out n10 ht.1 h0 h1 h
  · split
    · exact goes_out hJ ht h0 h1 h
    · rfl
theorem step_lie {f : Int → Int} {t u : Int} (hJ : Jx f) (ht : 0 ≤ t ∧ t < 4) (hu : 0 ≤ u ∧ u < 4) (hm : f (79 + 8 * u + 4) = 2) : step f t (79 + 8 * u + 4) = 2 := by
  by_cases q : u = t
  · subst q
    unfold step warms
    rw [if_neg (by omega), if_neg (by omega), put_n (by omega)]
    exact hm
  · rw [step_out hJ ht (by omega) (by omega) (by omega)]; exact hm
theorem moves_7 {f : Int → Int} {t : Int} (hJ : Jx f) (ht : 0 ≤ t ∧ t < 4) : f (79 + 8 * t + 7) ≤ moves f t (79 + 8 * t + 7) := by
  have le := squareOn_le f (f (79 + 8 * t + 0)) (after f (f (79 + 8 * t + 0))) (f (79 + 8 * t + 1)) (drag f t)
  have lo : ∀ g : Int → Int, lies g t (79 + 8 * t + 7) = g (79 + 8 * t + 7) := fun g => by unfold lies; rw [put_n (by omega), put_n (by omega), put_n (by omega)]
  have co : ∀ sq : Int, came f t sq (79 + 8 * t + 7) = f (79 + 8 * t + 7) := fun sq => by unfold came; rw [put_n (by omega), put_n (by omega), put_n (by omega)]
  unfold moves
  split
  · rw [lo]; omega
  · split
    · have := co (squareOn f (f (79 + 8 * t + 0)) (after f (f (79 + 8 * t + 0))) (f (79 + 8 * t + 1)) (drag f t))
      generalize squareOn f (f (79 + 8 * t + 0)) (after f (f (79 + 8 * t + 0))) (f (79 + 8 * t + 1)) (drag f t) = sq at *
      unfold comes
      rw [put_s, this]
      split <;> omega
    · split
      · rw [lo, co]; omega
      · rw [co]; omega
theorem step_7 {f : Int → Int} {t u : Int} (hJ : Jx f) (ht : 0 ≤ t ∧ t < 4) (hu : 0 ≤ u ∧ u < 4) : f (79 + 8 * u + 7) ≤ step f t (79 + 8 * u + 7) := by
  by_cases q : u = t
  · subst q
    have hb : 0 ≤ by' f u ∧ by' f u ≤ 99 := by obtain ⟨_, _, _, h9, _⟩ := hJ; exact by_rng h9 ht
    have k := (hJ.f.2.2 u ht.1 ht.2).2.1
    have n10 := hJ.f.2.1.2.2.2.2.2.2.2
    have q10 : 0 ≤ put f u 5 (f (79 + 8 * u + 5) + 1) 10 ∧ put f u 5 (f (79 + 8 * u + 5) + 1) 10 ≤ 30 := by rw [put_n (by omega)]; exact n10
    unfold step warms
    rw [put_n (by omega)]
    split
    · unfold waits
      split
      · unfold runs
        rw [put_n (by omega), put_n (by omega), put_n (by omega), put_n (by omega)]
        split
        · rw [disp_out q10 (by omega) (by omega) (by omega) (by omega), put_n (by omega)]; omega
        · rw [put_n (by omega)]; omega
      · rw [put_n (by omega)]; omega
    · split
      · unfold goes
        split
        · rw [put_n (by omega)]; omega
        · rw [put_put]
          have m := moves_7 (hJ.put2 (t := u) (v := f (79 + 8 * u + 2) + by' f u - 100) ht (by omega)) ht
          rw [put_n (by omega)] at m
          exact m
      · omega
  · rw [step_out hJ ht (by omega) (by omega) (by omega)]; omega
theorem steps_mono {f : Int → Int} (h : InvX f) {u : Int} (hu : 0 ≤ u ∧ u < 4) (n : Nat) (hn : n ≤ 4) : (f (79 + 8 * u + 4) = 2 → steps f n (79 + 8 * u + 4) = 2) ∧ f (79 + 8 * u + 7) ≤ steps f n (79 + 8 * u + 7) := by
  induction n with
  | zero => exact ⟨fun q => q, Int.le_refl _⟩
  | succ n ih =>
    obtain ⟨a, b⟩ := ih (by omega)
    have j := (steps_Jx h n (by omega)).1
    simp only [steps]
    have s := step_7 (t := (n : Int)) j (by omega) hu
    exact ⟨fun q => step_lie j (by omega) hu (a q), by omega⟩
theorem tick_mono {f : Int → Int} (h : InvX f) {u : Int} (hu : 0 ≤ u ∧ u < 4) : (f (79 + 8 * u + 4) = 2 → tick f (79 + 8 * u + 4) = 2) ∧ f (79 + 8 * u + 7) ≤ tick f (79 + 8 * u + 7) := by
  have w2 := h.J.f.1.2.2.1
  obtain ⟨a, b⟩ := steps_mono h hu (f 2).toNat (by omega)
  unfold tick
  rw [zu_n (by omega), zu_n (by omega)]
  exact ⟨a, b⟩
theorem lyn_mono {f : Int → Int} (h : InvX f) (n : Nat) (hn : n ≤ 4) : lyn f n ≤ lyn (tick f) n := by
  induction n with
  | zero => exact Int.le_refl _
  | succ n ih =>
    have a := ih (by omega)
    have b := (tick_mono h (u := (n : Int)) (by omega)).1
    simp only [lyn]
    by_cases q : f (79 + 8 * (n : Int) + 4) = 2
    · rw [if_pos q, if_pos (b q)]; omega
    · rw [if_neg q]; split <;> omega
/-- the first of the next ticks at which a count is another one -/
theorem stop_from {f : Int → Int} {had : Int} (K : Nat) : ∀ (i n : Nat), (∀ j : Nat, n ≤ j → j < n + i → lyn (ticks f j) (f 2).toNat = had) → stop f had (i + K) n = stop f had K (n + i) := by
  intro i
  induction i with
  | zero => intro n _; rw [Nat.zero_add, Nat.add_zero]
  | succ i ih =>
    intro n h
    rw [show i + 1 + K = (i + K) + 1 by omega]
    simp only [stop]
    rw [if_pos (h n (Nat.le_refl _) (by omega)), ih (n + 1) (fun j a b => h j (by omega) (by omega)), show n + 1 + i = n + (i + 1) by omega]
theorem toValley_hit {f : Int → Int} {i m : Nat} (h : ∀ j : Nat, j ≤ i → lyn (ticks f j) (f 2).toNat = lyn f (f 2).toNat) (hi : i < m) (hl : lyn f (f 2).toNat < lyn (ticks f (i + 1)) (f 2).toNat) : toValley f (m : Int) = ((i + 1 : Nat) : Int) := by
  have e : stop f (lyn f (f 2).toNat) m 0 = i + 1 := by
    have s := stop_from (f := f) (had := lyn f (f 2).toNat) (m - (i + 1)) (i + 1) 0 (fun j _ b => h j (by omega))
    rw [show i + 1 + (m - (i + 1)) = m by omega, Nat.zero_add] at s
    rw [s]
    cases m - (i + 1) with
    | zero => rfl
    | succ k => simp only [stop]; rw [if_neg (by omega)]
  unfold toValley
  rw [Int.toNat_natCast, e, if_pos hl]
theorem toValley_miss {f : Int → Int} {m : Nat} (h : ∀ j : Nat, j ≤ m → lyn (ticks f j) (f 2).toNat = lyn f (f 2).toNat) : toValley f (m : Int) = -1 := by
  have e : stop f (lyn f (f 2).toNat) m 0 = m := by
    have s := stop_from (f := f) (had := lyn f (f 2).toNat) 0 m 0 (fun j _ b => h j (by omega))
    rw [Nat.add_zero, Nat.zero_add] at s
    rw [s]; rfl
  unfold toValley
  rw [Int.toNat_natCast, e, if_neg (by rw [h m (Nat.le_refl _)]; omega)]
theorem stopS_from {f : Int → Int} {t : Int} (K : Nat) : ∀ (i n : Nat), (∀ j : Nat, n ≤ j → j < n + i → ticks f j (79 + 8 * t + 7) = f (79 + 8 * t + 7)) → stopS f t (i + K) n = stopS f t K (n + i) := by
  intro i
  induction i with
  | zero => intro n _; rw [Nat.zero_add, Nat.add_zero]
  | succ i ih =>
    intro n h
    rw [show i + 1 + K = (i + K) + 1 by omega]
    simp only [stopS]
    rw [if_pos (h n (Nat.le_refl _) (by omega)), ih (n + 1) (fun j a b => h j (by omega) (by omega)), show n + 1 + i = n + (i + 1) by omega]
theorem toStation_hit {f : Int → Int} {t : Int} {i : Nat} (h : ∀ j : Nat, j ≤ i → ticks f j (79 + 8 * t + 7) = f (79 + 8 * t + 7)) (hi : i < 2000) (hl : f (79 + 8 * t + 7) < ticks f (i + 1) (79 + 8 * t + 7)) : toStation f t = ((i + 1 : Nat) : Int) := by
  have e : stopS f t 2000 0 = i + 1 := by
    have s := stopS_from (f := f) (t := t) (2000 - (i + 1)) (i + 1) 0 (fun j _ b => h j (by omega))
    rw [show i + 1 + (2000 - (i + 1)) = 2000 by omega, Nat.zero_add] at s
    rw [s]
    cases 2000 - (i + 1) with
    | zero => rfl
    | succ k => simp only [stopS]; rw [if_neg (by omega)]
  unfold toStation
  rw [e, if_pos hl]
theorem toStation_miss {f : Int → Int} {t : Int} (h : ∀ j : Nat, j ≤ 2000 → ticks f j (79 + 8 * t + 7) = f (79 + 8 * t + 7)) : toStation f t = -1 := by
  have e : stopS f t 2000 0 = 2000 := by
    have s := stopS_from (f := f) (t := t) 0 2000 0 (fun j _ b => h j (by omega))
    rw [s]; rfl
  unfold toStation
  rw [e, if_neg (by rw [h 2000 (Nat.le_refl _)]; omega)]
