/-! Facts on the row for the class's other ways of reckoning -/
theorem tro_none {f : Int → Int} {c : Int} {n : Nat} (h : ∀ j : Nat, j < n → f (79 + 8 * (j : Int) + 0) ≠ c) : tro f c n = -1 := by
  induction n with
  | zero => rfl
  | succ n ih =>
    simp only [tro]
    rw [if_neg (h n (by omega))]
    exact ih (fun j hj => h j (by omega))
theorem tro_one {f : Int → Int} {c : Int} {i : Nat} (hW : Wf f) (hA : Ap f) (hi : (i : Int) < f 2) (h : f (79 + 8 * (i : Int) + 0) = c) : tro f c (f 2).toNat = i := by
  have key : ∀ n : Nat, i < n → (n : Int) ≤ f 2 → tro f c n = i := by
    intro n
    induction n with
    | zero => intro h1; omega
    | succ n ih =>
      intro h1 h2
      simp only [tro]
      by_cases q : f (79 + 8 * (n : Int) + 0) = c
      · rw [if_pos q]
        have := hA.1 (n : Int) (i : Int) (by omega) (by omega) (by omega) hi (by rw [q, h])
        omega
      · rw [if_neg q]
        exact ih (by rcases Nat.lt_or_ge i n with z | z
                     · exact z
                     · exact absurd (by rw [show n = i by omega]; exact h) q) (by omega)
  exact key _ (by omega) (by omega)
/-- the cells of a block, counted, are as many as lie between the brakes -/
theorem cls_len {f : Int → Int} (hW : Wf f) {b : Int} (hb : 0 ≤ b ∧ b < f 1) : cls f b (f 0).toNat = if 0 < brakeOf f b - brakeOf f (ahead f b) then brakeOf f b - brakeOf f (ahead f b) else brakeOf f b - brakeOf f (ahead f b) + f 0 := by
  have hw := hW
  obtain ⟨h0, h1, h2, h3, -⟩ := hW
  have ha := ahead_rng hw hb
  obtain ⟨p0, p1, p2, p3⟩ := brakeOf_spec hw hb
  obtain ⟨q0, q1, q2, q3⟩ := brakeOf_spec hw ha
  have P0 : ((brakeOf f b).toNat : Int) = brakeOf f b := by omega
  have Q0 : ((brakeOf f (ahead f b)).toNat : Int) = brakeOf f (ahead f b) := by omega
  -- how many cells of the first n are of the block
  by_cases e : b = 0
  · subst e
    have ea : ahead f 0 = f 1 - 1 := by unfold ahead; rw [if_pos rfl]
    rw [ea] at q0 q1 q2 q3 Q0 ⊢
    have lt : brakeOf f 0 < brakeOf f (f 1 - 1) := by
      rcases Int.lt_or_le (brakeOf f 0) (brakeOf f (f 1 - 1)) with z | z
      · exact z
      · have := cnt_mono f (show (brakeOf f (f 1 - 1)).toNat ≤ (brakeOf f 0).toNat by omega)
        omega
    have key : ∀ n : Nat, (n : Int) ≤ f 0 → cls f 0 n = (if (n : Int) ≤ brakeOf f 0 + 1 then (n : Int) else if (n : Int) ≤ brakeOf f (f 1 - 1) + 1 then brakeOf f 0 + 1 else (n : Int) - brakeOf f (f 1 - 1) + brakeOf f 0) := by
      intro n
      induction n with
      | zero => intro _; simp only [cls]; rw [if_pos (by omega)]; rfl
      | succ n ih =>
        intro hn
        have ih := ih (by omega)
        have k := blockAt_of (f := f) (c := (n : Int)) (v := cnt f n) (by simp)
        have r := cnt_rng f n
        have m1 : (n : Int) ≤ brakeOf f 0 → cnt f n ≤ 0 := fun z => by have := cnt_mono f (show n ≤ (brakeOf f 0).toNat by omega); omega
        have m2 : brakeOf f 0 < (n : Int) → 1 ≤ cnt f n := fun z => by have := cnt_step (f := f) (i := (brakeOf f 0).toNat) (j := n) (by rw [P0]; exact p2) (by omega); omega
        have m3 : (n : Int) ≤ brakeOf f (f 1 - 1) → cnt f n ≤ f 1 - 1 := fun z => by have := cnt_mono f (show n ≤ (brakeOf f (f 1 - 1)).toNat by omega); omega
        have m4 : brakeOf f (f 1 - 1) < (n : Int) → f 1 ≤ cnt f n := fun z => by have := cnt_step (f := f) (i := (brakeOf f (f 1 - 1)).toNat) (j := n) (by rw [Q0]; exact q2) (by omega); omega
        have m5 := cnt_mono f (show n ≤ (f 0).toNat by omega)
        simp only [cls]
        rw [ih, k]
        by_cases z1 : (n : Int) ≤ brakeOf f 0
        · have := m1 z1
          rw [if_pos (show (n : Int) ≤ brakeOf f 0 + 1 by omega), if_pos (show ((n + 1 : Nat) : Int) ≤ brakeOf f 0 + 1 by omega), if_neg (show ¬ cnt f n = f 1 by omega), if_pos (by omega)]
          omega
        · have a2 := m2 (by omega)
          by_cases z2 : (n : Int) ≤ brakeOf f (f 1 - 1)
          · have := m3 z2
            rw [if_neg (show ¬ cnt f n = f 1 by omega), if_neg (show ¬ cnt f n = 0 by omega), if_neg (show ¬ ((n + 1 : Nat) : Int) ≤ brakeOf f 0 + 1 by omega), if_pos (show ((n + 1 : Nat) : Int) ≤ brakeOf f (f 1 - 1) + 1 by omega)]
            by_cases z3 : (n : Int) ≤ brakeOf f 0 + 1
            · rw [if_pos z3]; omega
            · rw [if_neg z3, if_pos (by omega)]; omega
          · have a4 := m4 (by omega)
            rw [if_pos (show cnt f n = f 1 by omega), if_pos rfl, if_neg (show ¬ ((n + 1 : Nat) : Int) ≤ brakeOf f 0 + 1 by omega), if_neg (show ¬ ((n + 1 : Nat) : Int) ≤ brakeOf f (f 1 - 1) + 1 by omega), if_neg (show ¬ (n : Int) ≤ brakeOf f 0 + 1 by omega)]
            by_cases z3 : (n : Int) ≤ brakeOf f (f 1 - 1) + 1
            · rw [if_pos z3]; omega
            · rw [if_neg z3]; omega
    rw [key (f 0).toNat (by omega), if_neg (show ¬ ((f 0).toNat : Int) ≤ brakeOf f 0 + 1 by omega), if_neg (show ¬ 0 < brakeOf f 0 - brakeOf f (f 1 - 1) by omega)]
    split <;> omega
  · have ea : ahead f b = b - 1 := by unfold ahead; rw [if_neg e]
    rw [ea] at q0 q1 q2 q3 Q0 ⊢
    have lt : brakeOf f (b - 1) < brakeOf f b := by
      rcases Int.lt_or_le (brakeOf f (b - 1)) (brakeOf f b) with z | z
      · exact z
      · have := cnt_mono f (show (brakeOf f b).toNat ≤ (brakeOf f (b - 1)).toNat by omega)
        omega
    have key : ∀ n : Nat, (n : Int) ≤ f 0 → cls f b n = (if (n : Int) ≤ brakeOf f (b - 1) + 1 then 0 else if (n : Int) ≤ brakeOf f b + 1 then (n : Int) - brakeOf f (b - 1) - 1 else brakeOf f b - brakeOf f (b - 1)) := by
      intro n
      induction n with
      | zero => intro _; simp only [cls]; rw [if_pos (by omega)]
      | succ n ih =>
        intro hn
        have ih := ih (by omega)
        have k := blockAt_of (f := f) (c := (n : Int)) (v := cnt f n) (by simp)
        have r := cnt_rng f n
        have m1 : (n : Int) ≤ brakeOf f (b - 1) → cnt f n ≤ b - 1 := fun z => by have := cnt_mono f (show n ≤ (brakeOf f (b - 1)).toNat by omega); omega
        have m2 : brakeOf f (b - 1) < (n : Int) → b ≤ cnt f n := fun z => by have := cnt_step (f := f) (i := (brakeOf f (b - 1)).toNat) (j := n) (by rw [Q0]; exact q2) (by omega); omega
        have m3 : (n : Int) ≤ brakeOf f b → cnt f n ≤ b := fun z => by have := cnt_mono f (show n ≤ (brakeOf f b).toNat by omega); omega
        have m4 : brakeOf f b < (n : Int) → b + 1 ≤ cnt f n := fun z => by have := cnt_step (f := f) (i := (brakeOf f b).toNat) (j := n) (by rw [P0]; exact p2) (by omega); omega
        have m5 := cnt_mono f (show n ≤ (f 0).toNat by omega)
        have v0 : ¬ (if cnt f n = f 1 then (0 : Int) else cnt f n) = b ↔ ¬ (cnt f n = b) := by
          split <;> omega
        simp only [cls]
        rw [ih, k]
        by_cases z1 : (n : Int) ≤ brakeOf f (b - 1)
        · have := m1 z1
          rw [if_pos (show (n : Int) ≤ brakeOf f (b - 1) + 1 by omega), if_pos (show ((n + 1 : Nat) : Int) ≤ brakeOf f (b - 1) + 1 by omega), if_neg (v0.mpr (by omega))]
          omega
        · have a2 := m2 (by omega)
          by_cases z2 : (n : Int) ≤ brakeOf f b
          · have := m3 z2
            rw [if_neg (show ¬ ((n + 1 : Nat) : Int) ≤ brakeOf f (b - 1) + 1 by omega), if_pos (show ((n + 1 : Nat) : Int) ≤ brakeOf f b + 1 by omega), if_pos (Decidable.not_not.mp (fun z => (v0.mp z) (by omega)))]
            by_cases z3 : (n : Int) ≤ brakeOf f (b - 1) + 1
            · rw [if_pos z3]; omega
            · rw [if_neg z3, if_pos (by omega)]; omega
          · have a4 := m4 (by omega)
            rw [if_neg (v0.mpr (by omega)), if_neg (show ¬ ((n + 1 : Nat) : Int) ≤ brakeOf f (b - 1) + 1 by omega), if_neg (show ¬ ((n + 1 : Nat) : Int) ≤ brakeOf f b + 1 by omega), if_neg (show ¬ (n : Int) ≤ brakeOf f (b - 1) + 1 by omega)]
            by_cases z3 : (n : Int) ≤ brakeOf f b + 1
            · rw [if_pos z3]; omega
            · rw [if_neg z3]; omega
    rw [key (f 0).toNat (by omega), if_neg (show ¬ ((f 0).toNat : Int) ≤ brakeOf f (b - 1) + 1 by omega), if_pos (show 0 < brakeOf f b - brakeOf f (b - 1) by omega)]
    split <;> omega
