/-! The relation behind the coaster's own writes -/
theorem rel_set {f : Int → Int} {R : Nat → Int → Int} {w v : Int} (h : Rel f R) (hW : Wf f) (hw : 0 ≤ w ∧ w ≤ 3) : Rel (zu f (4 + w) v) (uc R 7 (zu (R 7) w v)) := by
  obtain ⟨⟨a1, a2, a3, a4, a5⟩, bb, c, ⟨d1, d2, d3, d4⟩, e, l⟩ := h
  have w0 := hW.1; have w1 := hW.2.1; have w2 := hW.2.2.1
  have o : ∀ i : Int, i ≠ 4 + w → zu f (4 + w) v i = f i := fun i hi => zu_n hi
  have n : ∀ j : Nat, j ≠ 7 → uc R 7 (zu (R 7) w v) j = R j := fun j hj => uc_n hj
  have s : ∀ k : Int, 0 ≤ k → k ≤ 3 → R 7 k = f (4 + k) → uc R 7 (zu (R 7) w v) 7 k = zu f (4 + w) v (4 + k) := fun k k0 k1 q => by
    rw [uc_s]
    by_cases z : k = w
    · rw [z, zu_s, zu_s]
    · rw [zu_n z, zu_n (by omega)]; exact q
  refine ⟨⟨?_, ?_, ?_, ?_, ?_⟩, fun q q0 q1 => ?_, fun q q0 q1 => ?_, ⟨?_, ?_, ?_, ?_⟩, fun u hu k k0 k1 => ?_, fun i i0 i1 => ?_⟩
  · rw [n 1 (by omega), o 0 (by omega)]; exact a1
  · rw [n 1 (by omega), o 1 (by omega)]; exact a2
  · rw [n 0 (by omega), o 2 (by omega)]; exact a3
  · rw [n 0 (by omega), o 3 (by omega)]; exact a4
  · rw [n 0 (by omega), o 8 (by omega)]; exact a5
  · rw [o 0 (by omega)] at q1
    rw [n 2 (by omega), n 3 (by omega), n 4 (by omega), o _ (by omega), o _ (by omega), blockAt_congr (f := f) (by omega) (o 1 (by omega)) (fun i _ _ => o i (by omega))]
    exact bb q q0 q1
  · rw [o 1 (by omega)] at q1
    rw [n 5 (by omega), n 12 (by omega), brakeOf_congr (f := f) (fun i _ _ => o i (by omega)), o _ (by omega)]
    exact c q q0 q1
  · exact s 0 (by omega) (by omega) d1
  · exact s 1 (by omega) (by omega) d2
  · exact s 2 (by omega) (by omega) d3
  · exact s 3 (by omega) (by omega) d4
  · rw [o 2 (by omega)] at hu
    rw [n _ (by omega), o _ (by omega)]; exact e u hu k k0 k1
  · rw [o 10 (by omega)] at i1
    rw [n 13 (by omega), n 14 (by omega), o 8 (by omega), o 10 (by omega), o _ (by omega), o _ (by omega)]; exact l i i0 i1
theorem rel_hgt {f : Int → Int} {R : Nat → Int → Int} {c v : Int} (h : Rel f R) (hW : Wf f) (hc : 0 ≤ c ∧ c < 30) : Rel (zu f (11 + c) v) (uc R 2 (zu (R 2) c v)) := by
  obtain ⟨⟨a1, a2, a3, a4, a5⟩, bb, cc, d, e, l⟩ := h
  have w0 := hW.1; have w1 := hW.2.1; have w2 := hW.2.2.1
  have o : ∀ i : Int, i ≠ 11 + c → zu f (11 + c) v i = f i := fun i hi => zu_n hi
  have n : ∀ j : Nat, j ≠ 2 → uc R 2 (zu (R 2) c v) j = R j := fun j hj => uc_n hj
  refine ⟨⟨?_, ?_, ?_, ?_, ?_⟩, fun q q0 q1 => ?_, fun q q0 q1 => ?_, ?_, fun u hu k k0 k1 => ?_, fun i i0 i1 => ?_⟩
  · rw [n 1 (by omega), o 0 (by omega)]; exact a1
  · rw [n 1 (by omega), o 1 (by omega)]; exact a2
  · rw [n 0 (by omega), o 2 (by omega)]; exact a3
  · rw [n 0 (by omega), o 3 (by omega)]; exact a4
  · rw [n 0 (by omega), o 8 (by omega)]; exact a5
  · rw [o 0 (by omega)] at q1
    obtain ⟨b1, b2, b3⟩ := bb q q0 q1
    rw [uc_s, n 3 (by omega), n 4 (by omega), o (41 + q) (by omega), blockAt_congr (f := f) (by omega) (o 1 (by omega)) (fun i _ _ => o i (by omega))]
    refine ⟨?_, b2, b3⟩
    by_cases z : q = c
    · rw [z, zu_s, zu_s]
    · rw [zu_n z, o _ (by omega)]; exact b1
  · rw [o 1 (by omega)] at q1
    rw [n 5 (by omega), n 12 (by omega), brakeOf_congr (f := f) (fun i _ _ => o i (by omega)), o _ (by omega)]
    exact cc q q0 q1
  · rw [n 7 (by omega), o 4 (by omega), o 5 (by omega), o 6 (by omega), o 7 (by omega)]; exact d
  · rw [o 2 (by omega)] at hu
    rw [n _ (by omega), o _ (by omega)]; exact e u hu k k0 k1
  · rw [o 10 (by omega)] at i1
    rw [n 13 (by omega), n 14 (by omega), o 8 (by omega), o 10 (by omega), o _ (by omega), o _ (by omega)]; exact l i i0 i1
theorem rel_take {f : Int → Int} {R : Nat → Int → Int} (h : Rel f R) (hW : Wf f) (h2 : f 2 ≠ 0) : Rel (zu f 2 (f 2 - 1)) (uc R 0 (zu (R 0) 0 (f 2 - 1))) := by
  obtain ⟨⟨a1, a2, a3, a4, a5⟩, bb, cc, d, e, l⟩ := h
  have w0 := hW.1; have w1 := hW.2.1; have w2 := hW.2.2.1
  have o : ∀ i : Int, i ≠ 2 → zu f 2 (f 2 - 1) i = f i := fun i hi => zu_n hi
  have n : ∀ j : Nat, j ≠ 0 → uc R 0 (zu (R 0) 0 (f 2 - 1)) j = R j := fun j hj => uc_n hj
  refine ⟨⟨?_, ?_, ?_, ?_, ?_⟩, fun q q0 q1 => ?_, fun q q0 q1 => ?_, ?_, fun u hu k k0 k1 => ?_, fun i i0 i1 => ?_⟩
  · rw [n 1 (by omega), o 0 (by omega)]; exact a1
  · rw [n 1 (by omega), o 1 (by omega)]; exact a2
  · rw [uc_s, zu_s, zu_s]
  · rw [uc_s, zu_n (by omega), o 3 (by omega)]; exact a4
  · rw [uc_s, zu_n (by omega), o 8 (by omega)]; exact a5
  · rw [o 0 (by omega)] at q1
    rw [n 2 (by omega), n 3 (by omega), n 4 (by omega), o _ (by omega), o _ (by omega), blockAt_congr (f := f) (by omega) (o 1 (by omega)) (fun i _ _ => o i (by omega))]
    exact bb q q0 q1
  · rw [o 1 (by omega)] at q1
    rw [n 5 (by omega), n 12 (by omega), brakeOf_congr (f := f) (fun i _ _ => o i (by omega)), o _ (by omega)]
    exact cc q q0 q1
  · rw [n 7 (by omega), o 4 (by omega), o 5 (by omega), o 6 (by omega), o 7 (by omega)]; exact d
  · rw [zu_s] at hu
    rw [n _ (by omega), o _ (by omega)]; exact e u (by omega) k k0 k1
  · rw [o 10 (by omega)] at i1
    rw [n 13 (by omega), n 14 (by omega), o 8 (by omega), o 10 (by omega), o _ (by omega), o _ (by omega)]; exact l i i0 i1
theorem lyn_next {f : Int → Int} {i m : Nat} {had : Int} (hx : InvX (ticks f i)) (hm : m ≤ 4) (h : ∀ j : Nat, j ≤ i → lyn (ticks f j) m = had) (hc : lyn (ticks f (i + 1)) m ≤ had) : ∀ j : Nat, j ≤ i + 1 → lyn (ticks f j) m = had := by
  intro j hj
  rcases Nat.lt_or_ge i j with z | z
  · have e : j = i + 1 := by omega
    have k := lyn_mono hx m hm
    have h0 := h i (Nat.le_refl _)
    rw [e]
    have : lyn (tick (ticks f i)) m = lyn (ticks f (i + 1)) m := rfl
    omega
  · exact h j z
