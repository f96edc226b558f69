/-! The ring: what lies behind a cell -/
theorem blockAt_of {f : Int → Int} {c v : Int} (h : cnt f c.toNat = v) : blockAt f c = if v = f 1 then 0 else v := by
  unfold blockAt; rw [h]
theorem cnt_at {f : Int → Int} {c : Int} (hc : 0 ≤ c) : cnt f (c + 1).toNat = cnt f c.toNat + (if f (41 + c) = 2 then 1 else 0) := by
  have e2 : (c + 1).toNat = c.toNat + 1 := by omega
  have e3 : ((c.toNat : Nat) : Int) = c := by omega
  rw [e2]
  simp only [cnt]
  rw [e3]
theorem after_plain {f : Int → Int} (hW : Wf f) {c : Int} (hc : 0 ≤ c ∧ c < f 0) (hk : f (41 + c) ≠ 2) : blockAt f (after f c) = blockAt f c := by
  obtain ⟨h0, h1, h2, h3, -⟩ := hW
  have k := cnt_at (f := f) hc.1
  rw [if_neg hk] at k
  unfold after
  by_cases e : c + 1 = f 0
  · rw [if_pos e]
    rw [e] at k
    rw [blockAt_of (c := 0) (v := 0) rfl, blockAt_of (c := c) (v := f 1) (by omega), if_neg (by omega), if_pos rfl]
  · rw [if_neg e, blockAt_of (c := c + 1) (v := cnt f c.toNat) (by omega), blockAt_of (c := c) rfl]
theorem after_brake {f : Int → Int} (hW : Wf f) {c : Int} (hc : 0 ≤ c ∧ c < f 0) (hk : f (41 + c) = 2) : blockAt f (after f c) = nextB f (blockAt f c) ∧ blockAt f c = cnt f c.toNat := by
  obtain ⟨h0, h1, h2, h3, -⟩ := hW
  have k := cnt_at (f := f) hc.1
  rw [if_pos hk] at k
  have st := cnt_mono f (show (c + 1).toNat ≤ (f 0).toNat by omega)
  have r := cnt_rng f c.toNat
  have eb : blockAt f c = cnt f c.toNat := by rw [blockAt_of rfl, if_neg (by omega)]
  refine ⟨?_, eb⟩
  rw [eb]
  unfold after nextB
  by_cases e : c + 1 = f 0
  · rw [e] at k
    rw [if_pos e, if_pos (by omega), blockAt_of (c := 0) (v := 0) rfl, if_neg (by omega)]
  · rw [if_neg e, blockAt_of (c := c + 1) (v := cnt f c.toNat + 1) (by omega)]
theorem brakeOf_block {f : Int → Int} (hW : Wf f) {c : Int} (hc : 0 ≤ c ∧ c < f 0) (hk : f (41 + c) = 2) : brakeOf f (blockAt f c) = c := by
  have e := (after_brake hW hc hk).2
  have e3 : ((c.toNat : Nat) : Int) = c := by omega
  rw [e, brakeOf_eq (i := c.toNat) (by have := hW.1; omega) (by rw [e3]; exact hk) rfl, e3]
theorem blockAt_brake {f : Int → Int} (hW : Wf f) {b : Int} (hb : 0 ≤ b ∧ b < f 1) : blockAt f (brakeOf f b) = b := by
  obtain ⟨a1, a2, a3, a4⟩ := brakeOf_spec hW hb
  unfold blockAt
  rw [a4, if_neg (by omega)]
theorem dist_rng {f : Int → Int} (hW : Wf f) {c : Int} (hc : 0 ≤ c ∧ c < f 0) : 0 ≤ dist f c ∧ dist f c < f 0 := by
  obtain ⟨a1, a2, a3, a4⟩ := brakeOf_spec hW (blockAt_rng hW hc)
  unfold dist
  split <;> omega
theorem dist_0 {f : Int → Int} (hW : Wf f) {c : Int} (hc : 0 ≤ c ∧ c < f 0) (hk : f (41 + c) ≠ 2) : 1 ≤ dist f c := by
  obtain ⟨a1, a2, a3, a4⟩ := brakeOf_spec hW (blockAt_rng hW hc)
  unfold dist
  split
  · have : c ≠ brakeOf f (blockAt f c) := fun e => hk (by rw [← e] at a3; exact a3)
    omega
  · omega
theorem dist_step {f : Int → Int} (hW : Wf f) {c : Int} (hc : 0 ≤ c ∧ c < f 0) (hk : f (41 + c) ≠ 2) : dist f (after f c) = dist f c - 1 := by
  obtain ⟨a1, a2, a3, a4⟩ := brakeOf_spec hW (blockAt_rng hW hc)
  have d := dist_0 hW hc hk
  unfold dist at d ⊢
  rw [after_plain hW hc hk]
  unfold after
  by_cases e : c ≤ brakeOf f (blockAt f c)
  · rw [if_pos e] at d ⊢
    rw [if_neg (show ¬ c + 1 = f 0 by omega), if_pos (by omega)]
    omega
  · rw [if_neg e] at d ⊢
    by_cases q : c + 1 = f 0
    · rw [if_pos q, if_pos a1]; omega
    · rw [if_neg q, if_neg (by omega)]; omega
theorem squareOn_up {f : Int → Int} (hW : Wf f) {u v sq d : Int} (hu : 0 ≤ u ∧ u < 30) (hv : 0 ≤ v ∧ v < 30) : squareOn f u v sq d ≤ 9999 ∧ (0 ≤ sq → d ≤ 1000 → -2000 ≤ squareOn f u v sq d) := by
  have k1 := hW.2.2.2.2.2.1 u hu.1 hu.2
  have k2 := hW.2.2.2.2.2.1 v hv.1 hv.2
  unfold squareOn sqr
  constructor
  · split <;> omega
  · intro h1 h2
    split <;> split <;> omega
theorem kindBy_2 {c : Int} : kindBy c = 2 ↔ c = 98 := by unfold kindBy; split <;> (try split) <;> (try split) <;> omega
theorem kindBy_rng (c : Int) : -1 ≤ kindBy c ∧ kindBy c ≤ 2 := by unfold kindBy; split <;> (try split) <;> (try split) <;> omega
theorem brs_rng (x : Int → Int) (n : Nat) : 0 ≤ brs x n ∧ brs x n ≤ n := by
  induction n with
  | zero => simp [brs]
  | succ n ih => simp only [brs]; split <;> omega
theorem bad_even {x : Int → Int} {n : Nat} (h : (n : Int) % 2 = 0) : bad x n = true ↔ (¬ (48 ≤ x n ∧ x n ≤ 57) ∨ (n : Int) / 2 = 30) := by
  unfold bad; rw [if_pos h]
  simp only [Bool.or_eq_true, Bool.not_eq_true', Bool.and_eq_false_iff, decide_eq_false_iff_not, decide_eq_true_eq]
  omega
theorem bad_odd {x : Int → Int} {n : Nat} (h : ¬ (n : Int) % 2 = 0) : bad x n = true ↔ (kindBy (x n) = -1 ∨ (kindBy (x n) = 2 ∧ brs x n = 8)) := by
  unfold bad; rw [if_neg h]
  simp only [Bool.or_eq_true, Bool.and_eq_true, decide_eq_true_eq]
theorem fst_keep {x : Int → Int} {n m : Nat} (h : fst' x n ≠ -1) (hm : n ≤ m) : fst' x m = fst' x n := by
  induction m with
  | zero => have : n = 0 := by omega
            rw [this]
  | succ m ih =>
    by_cases q : n = m + 1
    · rw [q]
    · have e := ih (by omega)
      simp only [fst']
      rw [if_neg (by rw [e]; exact fun z => h z.1), e]
theorem fst_next {x : Int → Int} {n : Nat} (h : fst' x n = -1) (hb : ¬ bad x n = true) : fst' x (n + 1) = -1 := by
  simp only [fst']; rw [if_neg (fun z => hb z.2), h]
theorem fault_at {x : Int → Int} {ln : Int} {n : Nat} (hl : (n : Int) < ln) (h : fst' x n = -1) (hb : bad x n = true) : fault x ln = n := by
  have e : fst' x (n + 1) = n := by simp only [fst']; rw [if_pos ⟨h, hb⟩]
  have k := fst_keep (x := x) (n := n + 1) (m := ln.toNat) (by rw [e]; omega) (by omega)
  unfold fault
  rw [k, e, if_neg (by omega)]
