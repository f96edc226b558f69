/-! A track read from a text -/
theorem fst_all {x : Int → Int} {n : Nat} (h : fst' x n = -1) {j : Nat} (hj : j < n) : ¬ bad x j = true := by
  intro q
  rcases Decidable.em (fst' x j = -1) with z | z
  · have k1 : fst' x (j + 1) = (j : Int) := by
      show (if fst' x j = -1 ∧ bad x j = true then (j : Int) else fst' x j) = (j : Int)
      rw [if_pos ⟨z, q⟩]
    have := fst_keep (x := x) (n := j + 1) (m := n) (by rw [k1]; omega) (by omega)
    rw [k1, h] at this
    omega
  · have := fst_keep z (show j ≤ n by omega)
    rw [h] at this
    exact z this.symm
theorem brs_8 {x : Int → Int} {n : Nat} (h : fst' x n = -1) : ∀ m : Nat, m ≤ n → brs x m ≤ 8 := by
  intro m
  induction m with
  | zero => intro _; simp [brs]
  | succ m ih =>
    intro hm
    have ih := ih (by omega)
    have nb := fst_all h (show m < n by omega)
    simp only [brs]
    split
    · rename_i q
      have z : ¬ (kindBy (x (m : Int)) = -1 ∨ (kindBy (x (m : Int)) = 2 ∧ brs x m = 8)) := fun w => nb ((bad_odd (by omega)).mpr w)
      have k := (kindBy_2 (c := x (m : Int))).mpr q.2
      omega
    · omega
theorem brs_mono (x : Int → Int) {m n : Nat} (h : m ≤ n) : brs x m ≤ brs x n := by
  induction n with
  | zero => rw [show m = 0 by omega]; exact Int.le_refl _
  | succ n ih =>
    rcases Nat.lt_or_ge m (n + 1) with z | z
    · have := ih (by omega)
      simp only [brs]
      split <;> omega
    · rw [show m = n + 1 by omega]; exact Int.le_refl _
/-- one cell of the text further -/
theorem brs_cell (x : Int → Int) (i : Nat) : brs x (2 * (i + 1)) = brs x (2 * i) + (if kindBy (x (2 * (i : Int) + 1)) = 2 then 1 else 0) := by
  show brs x (2 * i + 1 + 1) = _
  simp only [brs]
  rw [if_neg (fun q => by omega : ¬ (((2 * i : Nat) : Int) % 2 = 1 ∧ x ((2 * i : Nat) : Int) = 98)), show ((2 * i + 1 : Nat) : Int) = 2 * (i : Int) + 1 by omega]
  have k := kindBy_2 (c := x (2 * (i : Int) + 1))
  by_cases z : x (2 * (i : Int) + 1) = 98
  · rw [if_pos ⟨by omega, z⟩, if_pos (k.mpr z)]; omega
  · rw [if_neg (fun q => z q.2), if_neg (fun q => z (k.mp q))]; omega
/-- what the row shows of a text that was read -/
theorem parsed_at (f x : Int → Int) : ∀ n : Nat, n ≤ 30 → parsed f x n 0 = (n : Int) ∧ parsed f x n 1 = brs x (2 * n) ∧ (∀ c : Nat, c < n → parsed f x n (11 + (c : Int)) = x (2 * (c : Int)) - 48 ∧ parsed f x n (41 + (c : Int)) = kindBy (x (2 * (c : Int) + 1))) ∧
    (∀ i : Int, 2 ≤ i → i < 171 → (i < 11 ∨ 71 ≤ i ∨ (11 + (n : Int) ≤ i ∧ i < 41) ∨ 41 + (n : Int) ≤ i) → parsed f x n i = begun f i) := by
  intro n
  induction n with
  | zero =>
    intro _
    exact ⟨by show begun f 0 = _; exact begun_0 f, by show begun f 1 = _; rw [begun_at f (by omega) (by omega), if_neg (by omega), if_neg (by omega)]; rfl, fun c hc => absurd hc (by omega), fun i _ _ _ => rfl⟩
  | succ n ih =>
    intro hn
    obtain ⟨p0, p1, p2, p3⟩ := ih (by omega)
    have e : parsed f x (n + 1) = zu (zu (zu (zu (parsed f x n) (11 + (n : Int)) (x (2 * (n : Int)) - 48)) (41 + (n : Int)) (kindBy (x (2 * (n : Int) + 1)))) 0 ((n : Int) + 1)) 1 (brs x (2 * n) + (if kindBy (x (2 * (n : Int) + 1)) = 2 then 1 else 0)) := by
      simp only [parsed, addCell]
      rw [p0, p1]
    refine ⟨?_, ?_, fun c hc => ⟨?_, ?_⟩, fun i i0 i1 hi => ?_⟩
    · rw [e, zu_n (by omega), zu_s]; omega
    · rw [e, zu_s, brs_cell]
    · rw [e, zu_n (by omega), zu_n (by omega), zu_n (by omega)]
      by_cases z : c = n
      · rw [z, zu_s]
      · rw [zu_n (by omega)]; exact (p2 c (by omega)).1
    · rw [e, zu_n (by omega), zu_n (by omega)]
      by_cases z : c = n
      · rw [z, zu_s]
      · rw [zu_n (by omega), zu_n (by omega)]; exact (p2 c (by omega)).2
    · rw [e, zu_n (by omega), zu_n (by omega), zu_n (by omega), zu_n (by omega)]
      exact p3 i i0 i1 (by omega)
/-- the cells read so far, in the ride's own numbers -/
def Rd (x : Int → Int) (R : Nat → Int → Int) (i : Nat) : Prop := R 1 1 = brs x (2 * i) ∧ ∀ c : Nat, c < i → (R 2 (c : Int) = x (2 * (c : Int)) - 48 ∧ R 3 (c : Int) = kindBy (x (2 * (c : Int) + 1)) ∧ R 4 (c : Int) = brs x (2 * c) ∧ (kindBy (x (2 * (c : Int) + 1)) = 2 → R 5 (brs x (2 * c)) = (c : Int)))
theorem Rd_step {x : Int → Int} {R R' : Nat → Int → Int} {i : Nat} (h : Rd x R i) (h2 : R' 2 = zu (R 2) (i : Int) (x (2 * (i : Int)) - 48)) (h3 : R' 3 = zu (R 3) (i : Int) (kindBy (x (2 * (i : Int) + 1)))) (h4 : R' 4 = zu (R 4) (i : Int) (R 1 1))
    (hk : (kindBy (x (2 * (i : Int) + 1)) = 2 ∧ R' 5 = zu (R 5) (R 1 1) (i : Int) ∧ R' 1 1 = R 1 1 + 1) ∨ (kindBy (x (2 * (i : Int) + 1)) ≠ 2 ∧ R' 5 = R 5 ∧ R' 1 1 = R 1 1)) : Rd x R' (i + 1) := by
  obtain ⟨a, b⟩ := h
  refine ⟨?_, fun c hc => ?_⟩
  · rw [brs_cell, ← a]
    rcases hk with ⟨k, _, k2⟩ | ⟨k, _, k2⟩
    · rw [if_pos k, k2]
    · rw [if_neg k, k2]; omega
  · by_cases z : c = i
    · subst z
      refine ⟨by rw [h2, zu_s], by rw [h3, zu_s], by rw [h4, zu_s, a], fun q => ?_⟩
      rcases hk with ⟨k, k1, _⟩ | ⟨k, _, _⟩
      · rw [k1, a, zu_s]
      · exact absurd q k
    · obtain ⟨b1, b2, b3, b4⟩ := b c (by omega)
      refine ⟨by rw [h2, zu_n (by omega)]; exact b1, by rw [h3, zu_n (by omega)]; exact b2, by rw [h4, zu_n (by omega)]; exact b3, fun q => ?_⟩
      rcases hk with ⟨k, k1, _⟩ | ⟨k, k1, _⟩
      · have m := brs_mono x (show 2 * (c + 1) ≤ 2 * i by omega)
        have s := brs_cell x c
        rw [if_pos q] at s
        rw [k1, a, zu_n (by omega)]
        exact b4 q
      · rw [k1]; exact b4 q
/-- the ring closed -/
def Cl (R : Nat → Int → Int) (g : Int → Int) : Prop := ∀ c : Nat, (c : Int) < R 1 0 → g (c : Int) = if R 4 (c : Int) = R 1 1 then 0 else R 4 (c : Int)
theorem parsed_cnt (f x : Int → Int) {n : Nat} (hn : n ≤ 30) : ∀ c : Nat, c ≤ n → cnt (parsed f x n) c = brs x (2 * c) := by
  obtain ⟨p0, p1, p2, p3⟩ := parsed_at f x n hn
  intro c
  induction c with
  | zero => intro _; rfl
  | succ c ih =>
    intro hc
    rw [brs_cell, ← ih (by omega)]
    simp only [cnt]
    rw [(p2 c (by omega)).2]
theorem parsed_hi (f x : Int → Int) {n : Nat} (hn : n ≤ 30) (h : fst' x (2 * n) = -1) (h4 : 4 ≤ n) (h2 : 2 ≤ brs x (2 * n)) : Wf (parsed f x n) := by
  obtain ⟨p0, p1, p2, p3⟩ := parsed_at f x n hn
  have b8 := brs_8 h (2 * n) (by omega)
  refine ⟨by rw [p0]; omega, by rw [p1]; omega, by rw [p3 2 (by omega) (by omega) (by omega), begun_at f (by omega) (by omega), if_neg (by omega), if_neg (by omega)]; omega, ?_, fun c c0 c1 => ?_, fun c c0 c1 => ?_, fun t t0 t1 => ?_⟩
  · rw [p0, p1, Int.toNat_natCast, parsed_cnt f x hn n (by omega)]
  · obtain ⟨m, rfl⟩ : ∃ m : Nat, c = (m : Int) := ⟨c.toNat, by omega⟩
    by_cases z : m < n
    · rw [(p2 m z).2]
      have k := kindBy_rng (x (2 * (m : Int) + 1))
      have nb := fst_all h (show 2 * m + 1 < 2 * n by omega)
      have z2 : ¬ kindBy (x ((2 * m + 1 : Nat) : Int)) = -1 := fun w => nb ((bad_odd (by omega)).mpr (Or.inl w))
      rw [show ((2 * m + 1 : Nat) : Int) = 2 * (m : Int) + 1 by omega] at z2
      omega
    · rw [p3 _ (by omega) (by omega) (by omega), begun_at f (by omega) (by omega), if_neg (by omega), if_neg (by omega)]; omega
  · obtain ⟨m, rfl⟩ : ∃ m : Nat, c = (m : Int) := ⟨c.toNat, by omega⟩
    by_cases z : m < n
    · rw [(p2 m z).1]
      have nb := fst_all h (show 2 * m < 2 * n by omega)
      have z2 : ¬ (¬ (48 ≤ x ((2 * m : Nat) : Int) ∧ x ((2 * m : Nat) : Int) ≤ 57) ∨ ((2 * m : Nat) : Int) / 2 = 30) := fun w => nb ((bad_even (by omega)).mpr w)
      rw [show ((2 * m : Nat) : Int) = 2 * (m : Int) by omega] at z2
      omega
    · rw [p3 _ (by omega) (by omega) (by omega), begun_at f (by omega) (by omega), if_neg (by omega), if_neg (by omega)]; omega
  · have z : ∀ k : Int, 0 ≤ k → k < 8 → parsed f x n (79 + 8 * t + k) = 0 := fun k k0 k1 => by
      rw [p3 _ (by omega) (by omega) (by omega), begun_at f (by omega) (by omega), if_neg (by omega), if_neg (by omega)]
    rw [z 0 (by omega) (by omega), z 4 (by omega) (by omega), p0]
    omega
/-- the ride behind begin shows the row behind it -/
theorem rel_parsed {f x : Int → Int} {R : Nat → Int → Int} {n : Nat} (hn : n ≤ 30) (h : fst' x (2 * n) = -1) (h4 : 4 ≤ n) (h2 : 2 ≤ brs x (2 * n)) (r0 : R 1 0 = (n : Int)) (r1 : R 1 1 = brs x (2 * n)) (z0 : R 0 0 = 0 ∧ R 0 1 = 0 ∧ R 0 2 = 0)
    (rd : ∀ c : Nat, c < n → (R 2 (c : Int) = x (2 * (c : Int)) - 48 ∧ R 3 (c : Int) = kindBy (x (2 * (c : Int) + 1)) ∧ R 4 (c : Int) = (if brs x (2 * c) = brs x (2 * n) then 0 else brs x (2 * c)) ∧ (kindBy (x (2 * (c : Int) + 1)) = 2 → R 5 (brs x (2 * c)) = (c : Int))))
    (hd : ∀ k : Int, 0 ≤ k → k < 8 → R 12 k = 0) (hs : R 7 0 = f 4 ∧ R 7 1 = f 5 ∧ R 7 2 = f 6 ∧ R 7 3 = f 7) : Rel (parsed f x n) R := by
  have hW := parsed_hi f x hn h h4 h2
  obtain ⟨p0, p1, p2, p3⟩ := parsed_at f x n hn
  have b8 := brs_8 h (2 * n) (by omega)
  have q : ∀ i : Int, 2 ≤ i → i < 171 → (i < 4 ∨ i = 8 ∨ i = 10 ∨ 71 ≤ i) → parsed f x n i = 0 := fun i i0 i1 hi => by
    rw [p3 i i0 i1 (by omega), begun_at f (by omega) (by omega), if_neg (by omega), if_neg (by omega)]
  have q4 : ∀ i : Int, 4 ≤ i → i ≤ 7 → parsed f x n i = f i := fun i i0 i1 => by
    rw [p3 i (by omega) (by omega) (by omega), begun_at f (by omega) (by omega), if_neg (by omega), if_pos ⟨i0, i1⟩]
  refine ⟨⟨?_, ?_, ?_, ?_, ?_⟩, fun c c0 c1 => ?_, fun b b0 b1 => ⟨?_, ?_⟩, ⟨?_, ?_, ?_, ?_⟩, fun t ht k k0 k1 => ?_, fun i i0 i1 => ?_⟩
  · rw [p0, r0]
  · rw [p1, r1]
  · rw [q 2 (by omega) (by omega) (by omega)]; exact z0.1
  · rw [q 3 (by omega) (by omega) (by omega)]; exact z0.2.1
  · rw [q 8 (by omega) (by omega) (by omega)]; exact z0.2.2
  · rw [p0] at c1
    obtain ⟨m, rfl⟩ : ∃ m : Nat, c = (m : Int) := ⟨c.toNat, by omega⟩
    obtain ⟨d1, d2, d3, _⟩ := rd m (by omega)
    refine ⟨by rw [d1, (p2 m (by omega)).1], by rw [d2, (p2 m (by omega)).2], ?_⟩
    unfold blockAt
    rw [d3, Int.toNat_natCast, parsed_cnt f x hn m (by omega), p1]
  · obtain ⟨e0, e1, e2, e3⟩ := brakeOf_spec hW ⟨b0, b1⟩
    obtain ⟨m, hm⟩ : ∃ m : Nat, brakeOf (parsed f x n) b = (m : Int) := ⟨(brakeOf (parsed f x n) b).toNat, by omega⟩
    rw [hm] at e1 e2 e3 ⊢
    rw [p0] at e1
    rw [Int.toNat_natCast, parsed_cnt f x hn m (by omega)] at e3
    rw [(p2 m (by omega)).2] at e2
    rw [← e3]
    exact (rd m (by omega)).2.2.2 e2
  · rw [p1] at b1
    rw [hd b b0 (by omega), q _ (by omega) (by omega) (by omega)]
  · rw [q4 4 (by omega) (by omega)]; exact hs.1
  · rw [q4 5 (by omega) (by omega)]; exact hs.2.1
  · rw [q4 6 (by omega) (by omega)]; exact hs.2.2.1
  · rw [q4 7 (by omega) (by omega)]; exact hs.2.2.2
  · rw [q 2 (by omega) (by omega) (by omega)] at ht; omega
  · rw [q 10 (by omega) (by omega) (by omega)] at i1; omega
theorem ring_step {g g' q : Int → Int} {v : Int} {i : Nat} (hg : ∀ c : Nat, g (c : Int) = if c < i ∧ q (c : Int) = v then 0 else q (c : Int)) (h : (q (i : Int) = v ∧ g' = zu g (i : Int) 0) ∨ (q (i : Int) ≠ v ∧ g' = g)) : ∀ c : Nat, g' (c : Int) = if c < i + 1 ∧ q (c : Int) = v then 0 else q (c : Int) := by
  intro c
  have k := hg c
  rcases h with ⟨h1, h2⟩ | ⟨h1, h2⟩
  · rw [h2]
    by_cases z : c = i
    · rw [z, zu_s, if_pos ⟨by omega, h1⟩]
    · rw [zu_n (by omega), k]
      by_cases w : c < i ∧ q (c : Int) = v
      · rw [if_pos w, if_pos ⟨by omega, w.2⟩]
      · rw [if_neg w, if_neg (fun u => w ⟨by omega, u.2⟩)]
  · rw [h2, k]
    by_cases w : c < i ∧ q (c : Int) = v
    · rw [if_pos w, if_pos ⟨by omega, w.2⟩]
    · rw [if_neg w, if_neg (fun u => by
        by_cases z : c = i
        · rw [z] at u; exact h1 u.2
        · exact w ⟨by omega, u.2⟩)]
theorem ring_end {R : Nat → Int → Int} {g : Int → Int} {i : Nat} (hg : ∀ c : Nat, g (c : Int) = if c < i ∧ R 4 (c : Int) = R 1 1 then 0 else R 4 (c : Int)) (hi : R 1 0 ≤ (i : Int)) : Cl R g := by
  intro c hc
  rw [hg c]
  by_cases q : R 4 (c : Int) = R 1 1
  · rw [if_pos ⟨by omega, q⟩, if_pos q]
  · rw [if_neg (fun z => q z.2), if_neg q]
theorem kindOf_by {c : Int} (h : ¬ kindBy c = -1) : (if c = 98 then 2 else if c = 108 then 1 else 0) = kindBy c := by
  by_cases a : c = 98
  · subst a; decide
  · by_cases b : c = 108
    · subst b; decide
    · by_cases d : c = 46
      · subst d; decide
      · exact absurd (kindBy_m.mpr ⟨d, b, a⟩) h
theorem read_b7 {x : Int → Int} {n i : Nat} (h : fst' x (2 * n) = -1) (hi : i < n) (hk : kindBy (x (2 * (i : Int) + 1)) = 2) : brs x (2 * i) ≤ 7 := by
  have b8 := brs_8 h (2 * (i + 1)) (by omega)
  have s := brs_cell x i
  rw [if_pos hk] at s
  omega
theorem read_end {x : Int → Int} {R Ri R' : Nat → Int → Int} {n i : Nat} {g : Int → Int} (e : R' = uc Ri 4 g) (hd : Rd x Ri i) (hi : i = n) (h0 : Ri 1 0 = (n : Int)) (ho : ∀ j : Nat, j = 0 ∨ 6 ≤ j → Ri j = R j) (hg : Cl Ri g) :
    R' 1 0 = (n : Int) ∧ R' 1 1 = brs x (2 * n) ∧ (∀ c : Nat, c < n → (R' 2 (c : Int) = x (2 * (c : Int)) - 48 ∧ R' 3 (c : Int) = kindBy (x (2 * (c : Int) + 1)) ∧ R' 4 (c : Int) = (if brs x (2 * c) = brs x (2 * n) then 0 else brs x (2 * c)) ∧ (kindBy (x (2 * (c : Int) + 1)) = 2 → R' 5 (brs x (2 * c)) = (c : Int)))) ∧ (∀ j : Nat, j = 0 ∨ 6 ≤ j → R' j = R j) := by
  subst hi
  subst e
  refine ⟨h0, hd.1, fun c hc => ?_, fun j hj => by rw [uc_n (by omega)]; exact ho j hj⟩
  obtain ⟨a1, a2, a3, a4⟩ := hd.2 c hc
  refine ⟨a1, a2, ?_, a4⟩
  show g (c : Int) = _
  rw [hg c (by omega), a3, hd.1]
