/-! Facts on the row for the class's other ways of reckoning -/
theorem tro_none {f : Int → Int} {c : Int} {n : Nat} (h : ∀ j : Nat, j < n → f (79 + 8 * (j : Int) + 0) ≠ c) : tro f c n = -1 := by
  induction n with
  | zero => rfl
  | succ n ih =>
    simp only [tro]
    rw [if_neg (h n (by omega))]
    exact ih (fun j hj => h j (by omega))
theorem tro_one {f : Int → Int} {c : Int} {i : Nat} (hW : Wf f) (hA : Ap f) (hi : (i : Int) < f 2) (h : f (79 + 8 * (i : Int) + 0) = c) : tro f c (f 2).toNat = i := by
  have key : ∀ n : Nat, i < n → (n : Int) ≤ f 2 → tro f c n = i := by
    intro n
    induction n with
    | zero => intro h1; omega
    | succ n ih =>
      intro h1 h2
      simp only [tro]
      by_cases q : f (79 + 8 * (n : Int) + 0) = c
      · rw [if_pos q]
        have := hA.1 (n : Int) (i : Int) (by omega) (by omega) (by omega) hi (by rw [q, h])
        omega
      · rw [if_neg q]
        exact ih (by rcases Nat.lt_or_ge i n with z | z
                     · exact z
                     · exact absurd (by rw [show n = i by omega]; exact h) q) (by omega)
  exact key _ (by omega) (by omega)
/-- the cells of a block, counted, are as many as lie between the brakes -/
theorem cls_len {f : Int → Int} (hW : Wf f) {b : Int} (hb : 0 ≤ b ∧ b < f 1) : cls f b (f 0).toNat = if 0 < brakeOf f b - brakeOf f (ahead f b) then brakeOf f b - brakeOf f (ahead f b) else brakeOf f b - brakeOf f (ahead f b) + f 0 := by
  have hw := hW
  obtain ⟨h0, h1, h2, h3, -⟩ := hW
  have ha := ahead_rng hw hb
  obtain ⟨p0, p1, p2, p3⟩ := brakeOf_spec hw hb
  obtain ⟨q0, q1, q2, q3⟩ := brakeOf_spec hw ha
  have P0 : ((brakeOf f b).toNat : Int) = brakeOf f b := by omega
  have Q0 : ((brakeOf f (ahead f b)).toNat : Int) = brakeOf f (ahead f b) := by omega
  -- how many cells of the first n are of the block
  by_cases e : b = 0
  · subst e
    have ea : ahead f 0 = f 1 - 1 := by unfold ahead; rw [if_pos rfl]
    rw [ea] at q0 q1 q2 q3 Q0 ⊢
    have lt : brakeOf f 0 < brakeOf f (f 1 - 1) := by
      rcases Int.lt_or_le (brakeOf f 0) (brakeOf f (f 1 - 1)) with z | z
      · exact z
      · have := cnt_mono f (show (brakeOf f (f 1 - 1)).toNat ≤ (brakeOf f 0).toNat by omega)
        omega
    have key : ∀ n : Nat, (n : Int) ≤ f 0 → cls f 0 n = (if (n : Int) ≤ brakeOf f 0 + 1 then (n : Int) else if (n : Int) ≤ brakeOf f (f 1 - 1) + 1 then brakeOf f 0 + 1 else (n : Int) - brakeOf f (f 1 - 1) + brakeOf f 0) := by
      intro n
      induction n with
      | zero => intro _; simp only [cls]; rw [if_pos (by omega)]; rfl
      | succ n ih =>
        intro hn
        have ih := ih (by omega)
        have k := blockAt_of (f := f) (c := (n : Int)) (v := cnt f n) (by simp)
        have r := cnt_rng f n
        have m1 : (n : Int) ≤ brakeOf f 0 → cnt f n ≤ 0 := fun z => by have := cnt_mono f (show n ≤ (brakeOf f 0).toNat by omega); omega
        have m2 : brakeOf f 0 < (n : Int) → 1 ≤ cnt f n := fun z => by have := cnt_step (f := f) (i := (brakeOf f 0).toNat) (j := n) (by rw [P0]; exact p2) (by omega); omega
        have m3 : (n : Int) ≤ brakeOf f (f 1 - 1) → cnt f n ≤ f 1 - 1 := fun z => by have := cnt_mono f (show n ≤ (brakeOf f (f 1 - 1)).toNat by omega); omega
        have m4 : brakeOf f (f 1 - 1) < (n : Int) → f 1 ≤ cnt f n := fun z => by have := cnt_step (f := f) (i := (brakeOf f (f 1 - 1)).toNat) (j := n) (by rw [Q0]; exact q2) (by omega); omega
        have m5 := cnt_mono f (show n ≤ (f 0).toNat by omega)
        simp only [cls]
        rw [ih, k]
        by_cases z1 : (n : Int) ≤ brakeOf f 0
        · have := m1 z1
          rw [if_pos (show (n : Int) ≤ brakeOf f 0 + 1 by omega), if_pos (show ((n + 1 : Nat) : Int) ≤ brakeOf f 0 + 1 by omega), if_neg (show ¬ cnt f n = f 1 by omega), if_pos (by omega)]
          omega
        · have a2 := m2 (by omega)
          by_cases z2 : (n : Int) ≤ brakeOf f (f 1 - 1)
          · have := m3 z2
            rw [if_neg (show ¬ cnt f n = f 1 by omega), if_neg (show ¬ cnt f n = 0 by omega), if_neg (show ¬ ((n + 1 : Nat) : Int) ≤ brakeOf f 0 + 1 by omega), if_pos (show ((n + 1 : Nat) : Int) ≤ brakeOf f (f 1 - 1) + 1 by omega)]
            by_cases z3 : (n : Int) ≤ brakeOf f 0 + 1
            · rw [if_pos z3]; omega
            · rw [if_neg z3, if_pos (by omega)]; omega
          · have a4 := m4 (by omega)
            rw [if_pos (show cnt f n = f 1 by omega), if_pos rfl, if_neg (show ¬ ((n + 1 : Nat) : Int) ≤ brakeOf f 0 + 1 by omega), if_neg (show ¬ ((n + 1 : Nat) : Int) ≤ brakeOf f (f 1 - 1) + 1 by omega), if_neg (show ¬ (n : Int) ≤ brakeOf f 0 + 1 by omega)]
            by_cases z3 : (n : Int) ≤ brakeOf f (f 1 - 1) + 1
            · rw [if_pos z3]; omega
            · rw [if_neg z3]; omega
    rw [key (f 0).toNat (by omega), if_neg (show ¬ ((f 0).toNat : Int) ≤ brakeOf f 0 + 1 by omega), if_neg (show ¬ 0 < brakeOf f 0 - brakeOf f (f 1 - 1) by omega)]
    split <;> omega
  · have ea : ahead f b = b - 1 := by unfold ahead; rw [if_neg e]
    rw [ea] at q0 q1 q2 q3 Q0 ⊢
    have lt : brakeOf f (b - 1) < brakeOf f b := by
      rcases Int.lt_or_le (brakeOf f (b - 1)) (brakeOf f b) with z | z
      · exact z
      · have := cnt_mono f (show (brakeOf f b).toNat ≤ (brakeOf f (b - 1)).toNat by omega)
        omega
    have key : ∀ n : Nat, (n : Int) ≤ f 0 → cls f b n = (if (n : Int) ≤ brakeOf f (b - 1) + 1 then 0 else if (n : Int) ≤ brakeOf f b + 1 then (n : Int) - brakeOf f (b - 1) - 1 else brakeOf f b - brakeOf f (b - 1)) := by
      intro n
      induction n with
      | zero => intro _; simp only [cls]; rw [if_pos (by omega)]
      | succ n ih =>
        intro hn
        have ih := ih (by omega)
        have k := blockAt_of (f := f) (c := (n : Int)) (v := cnt f n) (by simp)
        have r := cnt_rng f n
        have m1 : (n : Int) ≤ brakeOf f (b - 1) → cnt f n ≤ b - 1 := fun z => by have := cnt_mono f (show n ≤ (brakeOf f (b - 1)).toNat by omega); omega
        have m2 : brakeOf f (b - 1) < (n : Int) → b ≤ cnt f n := fun z => by have := cnt_step (f := f) (i := (brakeOf f (b - 1)).toNat) (j := n) (by rw [Q0]; exact q2) (by omega); omega
        have m3 : (n : Int) ≤ brakeOf f b → cnt f n ≤ b := fun z => by have := cnt_mono f (show n ≤ (brakeOf f b).toNat by omega); omega
        have m4 : brakeOf f b < (n : Int) → b + 1 ≤ cnt f n := fun z => by have := cnt_step (f := f) (i := (brakeOf f b).toNat) (j := n) (by rw [P0]; exact p2) (by omega); omega
        have m5 := cnt_mono f (show n ≤ (f 0).toNat by omega)
        have v0 : ¬ (if cnt f n = f 1 then (0 : Int) else cnt f n) = b ↔ ¬ (cnt f n = b) := by
          split <;> omega
        simp only [cls]
        rw [ih, k]
        by_cases z1 : (n : Int) ≤ brakeOf f (b - 1)
        · have := m1 z1
          rw [if_pos (show (n : Int) ≤ brakeOf f (b - 1) + 1 by omega), if_pos (show ((n + 1 : Nat) : Int) ≤ brakeOf f (b - 1) + 1 by omega), if_neg (v0.mpr (by omega))]
          omega
        · have a2 := m2 (by omega)
          by_cases z2 : (n : Int) ≤ brakeOf f b
          · have := m3 z2
            rw [if_neg (show ¬ ((n + 1 : Nat) : Int) ≤ brakeOf f (b - 1) + 1 by omega), if_pos (show ((n + 1 : Nat) : Int) ≤ brakeOf f b + 1 by omega), if_pos (Decidable.not_not.mp (fun z => (v0.mp z) (by omega)))]
            by_cases z3 : (n : Int) ≤ brakeOf f (b - 1) + 1
            · rw [if_pos z3]; omega
            · rw [if_neg z3, if_pos (by omega)]; omega
          · have a4 := m4 (by omega)
            rw [if_neg (v0.mpr (by omega)), if_neg (show ¬ ((n + 1 : Nat) : Int) ≤ brakeOf f (b - 1) + 1 by omega), if_neg (show ¬ ((n + 1 : Nat) : Int) ≤ brakeOf f b + 1 by omega), if_neg (show ¬ (n : Int) ≤ brakeOf f (b - 1) + 1 by omega)]
            by_cases z3 : (n : Int) ≤ brakeOf f b + 1
            · rw [if_pos z3]; omega
            · rw [if_neg z3]; omega
    rw [key (f 0).toNat (by omega), if_neg (show ¬ ((f 0).toNat : Int) ≤ brakeOf f (b - 1) + 1 by omega), if_pos (show 0 < brakeOf f b - brakeOf f (b - 1) by omega)]
    split <;> omega
theorem tro_hit {f : Int → Int} {c : Int} (n : Nat) (h : tro f c n ≠ -1) : ∃ i : Nat, i < n ∧ tro f c n = i ∧ f (79 + 8 * (i : Int) + 0) = c := by
  induction n with
  | zero => exact absurd rfl h
  | succ n ih =>
    simp only [tro] at h ⊢
    by_cases q : f (79 + 8 * (n : Int) + 0) = c
    · rw [if_pos q]; exact ⟨n, by omega, rfl, q⟩
    · rw [if_neg q] at h ⊢
      obtain ⟨i, h1, h2⟩ := ih h
      exact ⟨i, by omega, h2⟩
theorem tro_miss {f : Int → Int} {c : Int} (n : Nat) (h : tro f c n = -1) : ∀ j : Nat, j < n → f (79 + 8 * (j : Int) + 0) ≠ c := by
  induction n with
  | zero => intro j hj; omega
  | succ n ih =>
    simp only [tro] at h
    by_cases q : f (79 + 8 * (n : Int) + 0) = c
    · rw [if_pos q] at h; omega
    · rw [if_neg q] at h
      intro j hj
      rcases Nat.lt_or_ge j n with z | z
      · exact ih h j z
      · rw [show j = n by omega]; exact q
theorem tro_rng (f : Int → Int) (c : Int) (n : Nat) : -1 ≤ tro f c n ∧ tro f c n < n := by
  induction n with
  | zero => simp [tro]
  | succ n ih => simp only [tro]; split <;> omega
theorem nob_all {f : Int → Int} {br : Int} {n : Nat} : nob f br n = true ↔ ∀ j : Nat, j < n → ¬ (f (79 + 8 * (j : Int) + 4) = 0 ∧ f (79 + 8 * (j : Int) + 0) = br) := by
  induction n with
  | zero => simp [nob]
  | succ n ih =>
    rw [nob_s, ih]
    constructor
    · rintro ⟨h1, h2⟩ j hj
      rcases Nat.lt_or_ge j n with z | z
      · exact h1 j z
      · rw [show j = n by omega]; exact h2
    · intro h
      exact ⟨fun j hj => h j (by omega), h n (by omega)⟩
theorem isFree_1 {f : Int → Int} {b : Int} (h : tro f (brakeOf f (ahead f b)) (f 2).toNat = -1) : isFree f b = true ↔ trainIn f b = -1 := by
  rw [isFree_iff]
  refine ⟨fun q => q.1, fun q => ⟨q, nob_all.mpr (fun j hj z => tro_miss _ h j hj z.2)⟩⟩
theorem isFree_2 {f : Int → Int} {b : Int} {i : Nat} (hi : i < (f 2).toNat) (hc : f (79 + 8 * (i : Int) + 0) = brakeOf f (ahead f b)) (hm : f (79 + 8 * (i : Int) + 4) = 0) : ¬ isFree f b = true := by
  rw [isFree_iff]
  exact fun q => nob_all.mp q.2 i hi ⟨hm, hc⟩
theorem isFree_3 {f : Int → Int} {b : Int} {i : Nat} (hW : Wf f) (hA : Ap f) (hi : i < (f 2).toNat) (hc : f (79 + 8 * (i : Int) + 0) = brakeOf f (ahead f b)) (hm : ¬ f (79 + 8 * (i : Int) + 4) = 0) : isFree f b = true ↔ trainIn f b = -1 := by
  rw [isFree_iff]
  refine ⟨fun q => q.1, fun q => ⟨q, nob_all.mpr (fun j hj z => ?_)⟩⟩
  have h2 := hW.2.2.1
  have e := hA.1 (j : Int) (i : Int) (by omega) (by omega) (by omega) (by omega) (by rw [z.2, hc])
  have : j = i := by omega
  subst this
  exact hm z.1
theorem squareOn_mono {f : Int → Int} {u v d s s' : Int} (h : s ≤ s') : squareOn f u v s d ≤ squareOn f u v s' d := by
  unfold squareOn sqr
  by_cases k : f (41 + v) = 1
  · simp [k]
  · simp only [if_neg k]
    split <;> split <;> omega
theorem cb_mono {f : Int → Int} {d : Int} (n : Nat) : ∀ {c v v' : Int}, v ≤ v' → cb f d n c v = true → cb f d n c v' = true := by
  induction n with
  | zero => intro _ _ _ _ _; rfl
  | succ n ih =>
    intro c v v' hv h
    simp only [cb] at h ⊢
    by_cases k : f (41 + c) = 2
    · rw [if_pos k]
    · rw [if_neg k] at h ⊢
      have m := squareOn_mono (f := f) (u := c) (v := after f c) (d := d) hv
      by_cases q : squareOn f c (after f c) v d < 0 ∨ (squareOn f c (after f c) v d = 0 ∧ f (41 + after f c) = 0)
      · rw [if_pos q] at h; cases h
      · rw [if_neg q] at h
        rw [if_neg (fun z => by rcases z with z | z
                                · exact q (Or.inl (by omega))
                                · rcases Int.lt_or_le (squareOn f c (after f c) v d) 0 with y | y
                                  · exact q (Or.inl y)
                                  · exact q (Or.inr ⟨by omega, z.2⟩))]
        exact ih m h
/-- the least square, as the bisection finds it -/
theorem bis_spec {f : Int → Int} {c : Int} (k : Nat) : ∀ {lo hi : Int}, 0 ≤ lo → lo ≤ hi → hi - lo < 2 ^ k → (∀ v : Int, 0 ≤ v → v < lo → ¬ cb f (f 4) 30 c v = true) → (∀ v : Int, hi ≤ v → v ≤ 9999 → cb f (f 4) 30 c v = true) →
    (lo ≤ bis f c k lo hi ∧ bis f c k lo hi ≤ hi) ∧ (∀ v : Int, 0 ≤ v → v < bis f c k lo hi → ¬ cb f (f 4) 30 c v = true) ∧ (∀ v : Int, bis f c k lo hi ≤ v → v ≤ 9999 → cb f (f 4) 30 c v = true) := by
  induction k with
  | zero =>
    intro lo hi h0 h1 h2 hl hh
    have : (2 : Int) ^ 0 = 1 := rfl
    have e : lo = hi := by omega
    subst e
    exact ⟨⟨Int.le_refl _, Int.le_refl _⟩, hl, hh⟩
  | succ k ih =>
    intro lo hi h0 h1 h2 hl hh
    rw [Int.pow_succ] at h2
    simp only [bis]
    by_cases q : lo < hi
    · rw [if_pos q]
      by_cases p : cb f (f 4) 30 c ((lo + hi) / 2) = true
      · rw [if_pos p]
        obtain ⟨a, b, d⟩ := ih (lo := lo) (hi := (lo + hi) / 2) h0 (by omega) (by omega) hl (fun v hv _ => cb_mono 30 hv p)
        exact ⟨⟨a.1, by omega⟩, b, d⟩
      · rw [if_neg p]
        obtain ⟨a, b, d⟩ := ih (lo := (lo + hi) / 2 + 1) (hi := hi) (by omega) (by omega) (by omega) (fun v _ hv z => p (cb_mono 30 (by omega) z)) hh
        exact ⟨⟨by omega, a.2⟩, b, d⟩
    · rw [if_neg q]
      have e : lo = hi := by omega
      subst e
      exact ⟨⟨Int.le_refl _, Int.le_refl _⟩, hl, hh⟩
theorem least_spec (f : Int → Int) (c : Int) : (0 ≤ bis f c 20 0 10000 ∧ bis f c 20 0 10000 ≤ 10000) ∧ (∀ v : Int, 0 ≤ v → v < bis f c 20 0 10000 → ¬ cb f (f 4) 30 c v = true) ∧ (∀ v : Int, bis f c 20 0 10000 ≤ v → v ≤ 9999 → cb f (f 4) 30 c v = true) :=
  bis_spec 20 (by omega) (by omega) (by decide) (fun v h1 h2 => by omega) (fun v h1 h2 => by omega)
theorem root_le {n x : Int} (h : 0 ≤ n ∧ n ≤ 9999) (hx : 0 ≤ x) : x * x ≤ n ↔ x ≤ root n := by
  obtain ⟨a1, a2, a3, a4⟩ := root_spec h
  constructor
  · intro q
    rcases Int.lt_or_le (root n) x with z | z
    · have := sq_mono (show 0 ≤ root n + 1 by omega) (show root n + 1 ≤ x by omega); omega
    · exact z
  · intro q
    have := sq_mono hx q; omega
