/-! What holds of the row between and within ticks, and what is reckoned on it -/
def Wf (f : Int → Int) : Prop :=
  (4 ≤ f 0 ∧ f 0 ≤ 30) ∧ (2 ≤ f 1 ∧ f 1 ≤ 8) ∧ (0 ≤ f 2 ∧ f 2 ≤ 4) ∧ cnt f (f 0).toNat = f 1 ∧
  (∀ c : Int, 0 ≤ c → c < 30 → 0 ≤ f (41 + c) ∧ f (41 + c) ≤ 2) ∧ (∀ c : Int, 0 ≤ c → c < 30 → 0 ≤ f (11 + c) ∧ f (11 + c) ≤ 9) ∧
  (∀ t : Int, 0 ≤ t → t < 4 → (0 ≤ f (79 + 8 * t + 0) ∧ f (79 + 8 * t + 0) < f 0) ∧ 0 ≤ f (79 + 8 * t + 4) ∧ f (79 + 8 * t + 4) ≤ 2)
theorem cnt_rng (f : Int → Int) (n : Nat) : 0 ≤ cnt f n ∧ cnt f n ≤ n := by
  induction n with
  | zero => simp [cnt]
  | succ n ih => simp only [cnt]; split <;> omega
theorem cnt_mono (f : Int → Int) {i j : Nat} (h : i ≤ j) : cnt f i ≤ cnt f j := by
  induction j with
  | zero => have : i = 0 := by omega
            rw [this]; exact Int.le_refl _
  | succ j ih =>
    rcases Nat.lt_or_ge i (j + 1) with q | q
    · have := ih (by omega)
      simp only [cnt]; split <;> omega
    · have : i = j + 1 := by omega
      rw [this]; exact Int.le_refl _
theorem cnt_step {f : Int → Int} {i j : Nat} (h : f (41 + (i : Int)) = 2) (hij : i < j) : cnt f i + 1 ≤ cnt f j := by
  have h1 : cnt f (i + 1) = cnt f i + 1 := by simp [cnt, h]
  have := cnt_mono f (show i + 1 ≤ j from hij)
  omega
theorem cnt_congr {f g : Int → Int} {n : Nat} (h : ∀ k : Nat, k < n → g (41 + (k : Int)) = f (41 + (k : Int))) : cnt g n = cnt f n := by
  induction n with
  | zero => rfl
  | succ n ih =>
    simp only [cnt]
    rw [ih (fun k hk => h k (by omega)), h n (by omega)]
/-- there is a brake cell with b brake cells ahead of it -/
theorem brake_ex {f : Int → Int} (b : Int) (n : Nat) (hb : 0 ≤ b) (h : b < cnt f n) : ∃ i : Nat, i < n ∧ f (41 + (i : Int)) = 2 ∧ cnt f i = b := by
  induction n with
  | zero => simp [cnt] at h; omega
  | succ n ih =>
    by_cases q : b < cnt f n
    · obtain ⟨i, h1, h2⟩ := ih q
      exact ⟨i, by omega, h2⟩
    · have h9 := h
      simp only [cnt] at h9
      by_cases k : f (41 + (n : Int)) = 2
      · rw [if_pos k] at h9
        exact ⟨n, by omega, k, by omega⟩
      · rw [if_neg k] at h9
        omega
theorem brake_un {f : Int → Int} {i j : Nat} (hi : f (41 + (i : Int)) = 2) (hj : f (41 + (j : Int)) = 2) (h : cnt f i = cnt f j) : i = j := by
  rcases Nat.lt_trichotomy i j with q | q | q
  · have := cnt_step hi q; omega
  · exact q
  · have := cnt_step hj q; omega
theorem brk_eq {f : Int → Int} {b : Int} {i : Nat} (hi : f (41 + (i : Int)) = 2) (hc : cnt f i = b) : ∀ (n c : Nat), c ≤ i → i < c + n → brk f b n c = i := by
  intro n
  induction n with
  | zero => intro c h1 h2; omega
  | succ n ih =>
    intro c h1 h2
    simp only [brk]
    by_cases q : f (41 + (c : Int)) = 2 ∧ cnt f c = b
    · rw [if_pos q, brake_un q.1 hi (q.2.trans hc.symm)]
    · rw [if_neg q]
      by_cases e : c = i
      · subst e; exact absurd ⟨hi, hc⟩ q
      · exact ih (c + 1) (by omega) (by omega)
theorem brakeOf_eq {f : Int → Int} {b : Int} {i : Nat} (h30 : i < 30) (hi : f (41 + (i : Int)) = 2) (hc : cnt f i = b) : brakeOf f b = i := brk_eq hi hc 30 0 (by omega) (by omega)
theorem brakeOf_spec {f : Int → Int} {b : Int} (hW : Wf f) (hb : 0 ≤ b ∧ b < f 1) : 0 ≤ brakeOf f b ∧ brakeOf f b < f 0 ∧ f (41 + brakeOf f b) = 2 ∧ cnt f (brakeOf f b).toNat = b := by
  obtain ⟨h0, h1, h2, h3, -⟩ := hW
  obtain ⟨i, q1, q2, q3⟩ := brake_ex (f := f) b (f 0).toNat hb.1 (by omega)
  have e := brakeOf_eq (by omega) q2 q3
  rw [e]
  refine ⟨by omega, by omega, q2, ?_⟩
  simpa using q3
theorem blockAt_rng {f : Int → Int} (hW : Wf f) {c : Int} (hc : 0 ≤ c ∧ c < f 0) : 0 ≤ blockAt f c ∧ blockAt f c < f 1 := by
  obtain ⟨h0, h1, h2, h3, -⟩ := hW
  have q := cnt_mono f (show c.toNat ≤ (f 0).toNat by omega)
  have q2 := (cnt_rng f c.toNat).1
  unfold blockAt
  split <;> omega
theorem nextB_rng {f : Int → Int} (hW : Wf f) {b : Int} (hb : 0 ≤ b ∧ b < f 1) : 0 ≤ nextB f b ∧ nextB f b < f 1 := by
  obtain ⟨h0, h1, -⟩ := hW
  unfold nextB; split <;> omega
theorem ahead_rng {f : Int → Int} (hW : Wf f) {b : Int} (hb : 0 ≤ b ∧ b < f 1) : 0 ≤ ahead f b ∧ ahead f b < f 1 := by
  obtain ⟨h0, h1, -⟩ := hW
  unfold ahead; split <;> omega
theorem after_rng {f : Int → Int} (hW : Wf f) {c : Int} (hc : 0 ≤ c ∧ c < f 0) : 0 ≤ after f c ∧ after f c < f 0 := by
  obtain ⟨h0, h1, -⟩ := hW
  unfold after; split <;> omega
theorem tri_rng (f : Int → Int) (b : Int) (n : Nat) : -1 ≤ tri f b n ∧ tri f b n < n := by
  induction n with
  | zero => simp [tri]
  | succ n ih => simp only [tri]; split <;> omega
theorem tri_keep {f : Int → Int} {b : Int} {n m : Nat} (h : tri f b n ≠ -1) (hm : n ≤ m) : tri f b m = tri f b n := by
  induction m with
  | zero => have : n = 0 := by omega
            rw [this]
  | succ m ih =>
    by_cases q : n = m + 1
    · rw [q]
    · have e := ih (by omega)
      simp only [tri]
      rw [if_neg (by rw [e]; exact fun z => h z.1), e]
theorem trainIn_rng {f : Int → Int} (hW : Wf f) (b : Int) : -1 ≤ trainIn f b ∧ trainIn f b < f 2 := by
  obtain ⟨-, -, h2, -⟩ := hW
  have := tri_rng f b (f 2).toNat
  unfold trainIn
  omega
theorem rt_spec (n : Int) (h0 : 0 ≤ n) (k : Nat) : 0 ≤ rt n k ∧ rt n k ≤ k ∧ rt n k * rt n k ≤ n ∧ (rt n k < k → n < (rt n k + 1) * (rt n k + 1)) := by
  induction k with
  | zero => simp [rt, h0]
  | succ k ih =>
    obtain ⟨a1, a2, a3, a4⟩ := ih
    simp only [rt]
    split
    · rename_i q
      refine ⟨by omega, by omega, q, fun z => ?_⟩
      by_cases e : rt n k < k
      · have := a4 e; omega
      · have e2 : rt n k = k := by omega
        omega
    · rename_i q
      exact ⟨a1, by omega, a3, fun _ => by omega⟩
theorem root_spec {n : Int} (h : 0 ≤ n ∧ n ≤ 9999) : 0 ≤ root n ∧ root n ≤ 99 ∧ root n * root n ≤ n ∧ n < (root n + 1) * (root n + 1) := by
  obtain ⟨a1, a2, a3, a4⟩ := rt_spec n h.1 100
  have h99 : root n ≤ 99 := by
    rcases Int.lt_or_le (root n) 100 with q | q
    · omega
    · have : (100 : Int) * 100 ≤ root n * root n := Int.mul_le_mul q q (by omega) (by omega)
      have : root n * root n ≤ n := a3
      omega
  exact ⟨a1, h99, a3, a4 (by have : rt n 100 ≤ 99 := h99; omega)⟩
theorem sq_mono {a b : Int} (ha : 0 ≤ a) (h : a ≤ b) : a * a ≤ b * b := Int.mul_le_mul h h ha (by omega)
theorem root_eq {n r : Int} (h : 0 ≤ n ∧ n ≤ 9999) (h0 : 0 ≤ r) (h1 : r * r ≤ n) (h2 : n < (r + 1) * (r + 1)) : r = root n := by
  obtain ⟨a1, a2, a3, a4⟩ := root_spec h
  rcases Int.lt_trichotomy r (root n) with q | q | q
  · have := sq_mono (show 0 ≤ r + 1 by omega) (show r + 1 ≤ root n by omega); omega
  · exact q
  · have := sq_mono (show 0 ≤ root n + 1 by omega) (show root n + 1 ≤ r by omega); omega
theorem Wf_congr {f g : Int → Int} (hW : Wf f) (h : ∀ i : Int, 0 ≤ i → i ≤ 2 → g i = f i) (h2 : ∀ i : Int, 11 ≤ i → i < 71 → g i = f i) (h3 : ∀ t : Int, 0 ≤ t → t < 4 → (0 ≤ g (79 + 8 * t + 0) ∧ g (79 + 8 * t + 0) < f 0) ∧ 0 ≤ g (79 + 8 * t + 4) ∧ g (79 + 8 * t + 4) ≤ 2) : Wf g := by
  obtain ⟨a0, a1, a2, a3, a4, a5, a6⟩ := hW
  have e0 := h 0 (by omega) (by omega)
  have e1 := h 1 (by omega) (by omega)
  have e2 := h 2 (by omega) (by omega)
  refine ⟨by rw [e0]; exact a0, by rw [e1]; exact a1, by rw [e2]; exact a2, ?_, fun c c0 c1 => ?_, fun c c0 c1 => ?_, fun t t0 t1 => ?_⟩
  · rw [e0, e1, cnt_congr (f := f) (fun k hk => h2 _ (by omega) (by omega))]
    exact a3
  · rw [h2 _ (by omega) (by omega)]; exact a4 c c0 c1
  · rw [h2 _ (by omega) (by omega)]; exact a5 c c0 c1
  · rw [e0]; exact h3 t t0 t1
theorem put_s (f : Int → Int) (t w v : Int) : put f t w v (79 + 8 * t + w) = v := zu_s _ _ _
theorem put_n {f : Int → Int} {t w v i : Int} (h : i ≠ 79 + 8 * t + w) : put f t w v i = f i := zu_n h
theorem Wf_put {f : Int → Int} {t w v : Int} (hW : Wf f) (ht : 0 ≤ t ∧ t < 4) (hw : 1 ≤ w ∧ w < 8) (h4 : w = 4 → 0 ≤ v ∧ v ≤ 2) : Wf (put f t w v) :=
  Wf_congr hW (fun i _ _ => put_n (by omega)) (fun i _ _ => put_n (by omega)) (fun t' t0 t1 => by
    have k := hW.2.2.2.2.2.2 t' t0 t1
    rw [put_n (show 79 + 8 * t' + 0 ≠ 79 + 8 * t + w by omega)]
    refine ⟨k.1, ?_⟩
    by_cases e : 79 + 8 * t' + 4 = 79 + 8 * t + w
    · rw [e, put_s]; exact h4 (by omega)
    · rw [put_n e]; exact k.2)
theorem Wf_put0 {f : Int → Int} {t v : Int} (hW : Wf f) (ht : 0 ≤ t ∧ t < 4) (hv : 0 ≤ v ∧ v < f 0) : Wf (put f t 0 v) :=
  Wf_congr hW (fun i _ _ => put_n (by omega)) (fun i _ _ => put_n (by omega)) (fun t' t0 t1 => by
    have k := hW.2.2.2.2.2.2 t' t0 t1
    rw [put_n (show 79 + 8 * t' + 4 ≠ 79 + 8 * t + 0 by omega)]
    refine ⟨?_, k.2⟩
    by_cases e : 79 + 8 * t' + 0 = 79 + 8 * t + 0
    · rw [e, put_s]; exact hv
    · rw [put_n e]; exact k.1)
theorem b2z_rng (P : Prop) [Decidable P] : -2147483648 ≤ b2z P ∧ b2z P ≤ 2147483647 := by rcases b2z_01 P with h | h <;> rw [h] <;> decide
theorem b2z_congr {P R : Prop} [Decidable P] [Decidable R] (h : P ↔ R) : b2z P = b2z R := by unfold b2z; by_cases q : P <;> simp_all
theorem isGap_iff {f : Int → Int} : isGap f = true ↔ (f 9 = -1 ∨ f 6 ≤ f 3 - f 9) := by simp [isGap]
theorem nob_s {f : Int → Int} {br : Int} {n : Nat} : nob f br (n + 1) = true ↔ nob f br n = true ∧ ¬ (f (79 + 8 * (n : Int) + 4) = 0 ∧ f (79 + 8 * (n : Int) + 0) = br) := by
  simp only [nob, Bool.and_eq_true, Bool.not_eq_true', Bool.and_eq_false_iff, decide_eq_false_iff_not]
  constructor
  · rintro ⟨h, q⟩; exact ⟨h, fun z => q.elim (fun k => k z.1) (fun k => k z.2)⟩
  · rintro ⟨h, q⟩
    refine ⟨h, ?_⟩
    by_cases z : f (79 + 8 * (n : Int) + 4) = 0
    · exact Or.inr (fun k => q ⟨z, k⟩)
    · exact Or.inl z
theorem isFree_iff {f : Int → Int} {b : Int} : isFree f b = true ↔ trainIn f b = -1 ∧ nob f (brakeOf f (ahead f b)) (f 2).toNat = true := by simp [isFree]
/-- the numbers of the whole ride that are compared -/
def Ns (f : Int → Int) : Prop := (0 ≤ f 3 ∧ f 3 ≤ 200000) ∧ (0 ≤ f 4 ∧ f 4 ≤ 20) ∧ (1 ≤ f 5 ∧ f 5 ≤ 50) ∧ (0 ≤ f 6 ∧ f 6 ≤ 500) ∧ (0 ≤ f 7 ∧ f 7 ≤ 40) ∧ (0 ≤ f 8 ∧ f 8 ≤ 1000000) ∧ (-1 ≤ f 9 ∧ f 9 ≤ 200000) ∧ (0 ≤ f 10 ∧ f 10 ≤ 30)
theorem Ns_congr {f g : Int → Int} (h : Ns f) (e : ∀ i : Int, 3 ≤ i → i ≤ 10 → g i = f i) : Ns g := by
  unfold Ns at h ⊢
  rw [e 3 (by omega) (by omega), e 4 (by omega) (by omega), e 5 (by omega) (by omega), e 6 (by omega) (by omega), e 7 (by omega) (by omega), e 8 (by omega) (by omega), e 9 (by omega) (by omega), e 10 (by omega) (by omega)]
  exact h
theorem Ns_put {f : Int → Int} {t w v : Int} (h : Ns f) (ht : 0 ≤ t ∧ t < 4) (hw : 0 ≤ w ∧ w < 8) : Ns (put f t w v) := Ns_congr h (fun i _ _ => put_n (by omega))
