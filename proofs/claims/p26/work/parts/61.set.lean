/-! The bounds of the settings -/
theorem st4_0 (a b c d : Int) : st4 a b c d 0 = a := rfl
theorem st4_1 (a b c d : Int) : st4 a b c d 1 = b := rfl
theorem st4_2 (a b c d : Int) : st4 a b c d 2 = c := rfl
theorem st4_3 (a b c d : Int) : st4 a b c d 3 = d := rfl
theorem set_rng {w : Int} (h : 0 ≤ w ∧ w ≤ 3) : 0 ≤ st4 0 1 0 0 w ∧ st4 0 1 0 0 w ≤ 1 ∧ 20 ≤ st4 20 50 500 40 w ∧ st4 20 50 500 40 w ≤ 500 := by
  rcases (show w = 0 ∨ w = 1 ∨ w = 2 ∨ w = 3 by omega) with rfl | rfl | rfl | rfl <;> decide
theorem set_can {w v : Int} (h : 0 ≤ w ∧ w ≤ 3) : canBe w v = true ↔ (st4 0 1 0 0 w ≤ v ∧ v ≤ st4 20 50 500 40 w) := by
  rcases (show w = 0 ∨ w = 1 ∨ w = 2 ∨ w = 3 by omega) with rfl | rfl | rfl | rfl
  · rw [show st4 0 1 0 0 0 = 0 from rfl, show st4 20 50 500 40 0 = 20 from rfl]; unfold canBe; rw [decide_eq_true_iff]; omega
  · rw [show st4 0 1 0 0 1 = 1 from rfl, show st4 20 50 500 40 1 = 50 from rfl]; unfold canBe; rw [decide_eq_true_iff]; omega
  · rw [show st4 0 1 0 0 2 = 0 from rfl, show st4 20 50 500 40 2 = 500 from rfl]; unfold canBe; rw [decide_eq_true_iff]; omega
  · rw [show st4 0 1 0 0 3 = 0 from rfl, show st4 20 50 500 40 3 = 40 from rfl]; unfold canBe; rw [decide_eq_true_iff]; omega
theorem thSet_0 {w v : Int} (h : thSet w v = 0) : (0 ≤ w ∧ w ≤ 3) ∧ st4 0 1 0 0 w ≤ v ∧ v ≤ st4 20 50 500 40 w := by
  unfold thSet at h
  split at h
  · rename_i q
    split at h
    · rename_i q2
      exact ⟨q, (set_can q).mp q2⟩
    · omega
  · omega
theorem thSet_1 {w v : Int} (h : thSet w v = 1) : ¬ (0 ≤ w ∧ w ≤ 3) := by
  unfold thSet at h
  split at h
  · split at h <;> omega
  · assumption
theorem thSet_2 {w v : Int} (h : thSet w v = 2) : (0 ≤ w ∧ w ≤ 3) ∧ ¬ (st4 0 1 0 0 w ≤ v ∧ v ≤ st4 20 50 500 40 w) := by
  unfold thSet at h
  split at h
  · rename_i q
    split at h
    · omega
    · rename_i q2
      exact ⟨q, fun z => q2 ((set_can q).mpr z)⟩
  · omega
