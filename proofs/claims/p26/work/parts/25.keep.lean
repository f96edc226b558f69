/-! The trains stay apart, the log is kept, what does not stand has not stood -/
theorem put_at (f : Int → Int) (t u w k v : Int) (hw : 0 ≤ w ∧ w < 8) (hk : 0 ≤ k ∧ k < 8) : put f t w v (79 + 8 * u + k) = if u = t ∧ k = w then v else f (79 + 8 * u + k) := by
  by_cases q : u = t ∧ k = w
  · rw [if_pos q, q.1, q.2, put_s]
  · rw [if_neg q, put_n (by omega)]
theorem tri_none {f : Int → Int} {b : Int} (n : Nat) (h : tri f b n = -1) : ∀ j : Nat, j < n → blockAt f (f (79 + 8 * (j : Int) + 0)) ≠ b := by
  induction n with
  | zero => intro j hj; omega
  | succ n ih =>
    simp only [tri] at h
    by_cases q : tri f b n = -1 ∧ blockAt f (f (79 + 8 * (n : Int) + 0)) = b
    · rw [if_pos q] at h; omega
    · rw [if_neg q] at h
      intro j hj
      rcases Nat.lt_or_ge j n with z | z
      · exact ih h j z
      · rw [show j = n by omega]; exact fun e => q ⟨h, e⟩
theorem trainIn_none {f : Int → Int} {b : Int} (h : trainIn f b = -1) {u : Int} (h0 : 0 ≤ u) (h1 : u < f 2) : blockAt f (f (79 + 8 * u + 0)) ≠ b := by
  have := tri_none _ h u.toNat (by omega)
  rw [show ((u.toNat : Nat) : Int) = u by omega] at this
  exact this
theorem nextB_inj {f : Int → Int} (hW : Wf f) {a b : Int} (ha : 0 ≤ a ∧ a < f 1) (hb : 0 ≤ b ∧ b < f 1) (h : nextB f a = nextB f b) : a = b := by
  unfold nextB at h; split at h <;> split at h <;> omega
theorem nextB_ne {f : Int → Int} (hW : Wf f) {a : Int} (ha : 0 ≤ a ∧ a < f 1) : nextB f a ≠ a := by
  have := hW.2.1
  unfold nextB; split <;> omega
theorem Ap_gen {f g : Int → Int} (hA : Ap f) (hW : Wf f) (h1 : g 1 = f 1) (h2 : g 2 = f 2) (hk : ∀ i : Int, 41 ≤ i → i < 71 → g i = f i) (hc : ∀ u : Int, 0 ≤ u → u < f 2 → g (79 + 8 * u + 0) = f (79 + 8 * u + 0))
    (hm : ∀ u : Int, 0 ≤ u → u < f 2 → g (79 + 8 * u + 4) = 0 → f (79 + 8 * u + 4) = 0 ∨ ∀ w : Int, 0 ≤ w → w < f 2 → blockAt f (f (79 + 8 * w + 0)) ≠ nextB f (blockAt f (f (79 + 8 * u + 0)))) : Ap g := by
  have w0 := hW.1; have w2 := hW.2.2.1
  have cr : ∀ u : Int, 0 ≤ u → u < f 2 → 0 ≤ f (79 + 8 * u + 0) ∧ f (79 + 8 * u + 0) < f 0 := fun u a b => (hW.2.2.2.2.2.2 u a (by omega)).1
  have bl : ∀ u : Int, 0 ≤ u → u < f 2 → blockAt g (g (79 + 8 * u + 0)) = blockAt f (f (79 + 8 * u + 0)) := fun u a b => by
    rw [hc u a b, blockAt_congr (by have := cr u a b; omega) h1 hk]
  have nx : ∀ b : Int, nextB g b = nextB f b := fun b => by unfold nextB; rw [h1]
  refine ⟨fun t u t0 t1 u0 u1 e => ?_, fun t u t0 t1 u0 u1 m k => ?_⟩
  · rw [h2] at t1 u1
    rw [bl t t0 t1, bl u u0 u1] at e
    exact hA.1 t u t0 t1 u0 u1 e
  · rw [h2] at t1 u1
    rw [bl t t0 t1, bl u u0 u1, nx]
    have c := cr t t0 t1
    rcases hm t t0 t1 m with q | q
    · rw [hc t t0 t1, hk _ (by omega) (by omega)] at k
      exact hA.2 t u t0 t1 u0 u1 q k
    · exact q u u0 u1
theorem Ap_move {f g : Int → Int} {t : Int} (hA : Ap f) (hW : Wf f) (t0 : 0 ≤ t) (t1 : t < f 2) (hm0 : f (79 + 8 * t + 4) = 0) (h1 : g 1 = f 1) (h2 : g 2 = f 2) (hk : ∀ i : Int, 41 ≤ i → i < 71 → g i = f i)
    (hct : g (79 + 8 * t + 0) = after f (f (79 + 8 * t + 0))) (hc : ∀ u : Int, 0 ≤ u → u < f 2 → u ≠ t → g (79 + 8 * u + 0) = f (79 + 8 * u + 0)) (hm : ∀ u : Int, 0 ≤ u → u < f 2 → u ≠ t → g (79 + 8 * u + 4) = 0 → f (79 + 8 * u + 4) = 0)
    (hmt : g (79 + 8 * t + 4) = 0 → f (41 + after f (f (79 + 8 * t + 0))) ≠ 2) : Ap g := by
  have w0 := hW.1; have w2 := hW.2.2.1
  have cr : ∀ u : Int, 0 ≤ u → u < f 2 → 0 ≤ f (79 + 8 * u + 0) ∧ f (79 + 8 * u + 0) < f 0 := fun u a b => (hW.2.2.2.2.2.2 u a (by omega)).1
  have ca := after_rng hW (cr t t0 t1)
  have bu : ∀ u : Int, 0 ≤ u → u < f 2 → u ≠ t → blockAt g (g (79 + 8 * u + 0)) = blockAt f (f (79 + 8 * u + 0)) := fun u a b e => by
    rw [hc u a b e, blockAt_congr (by have := cr u a b; omega) h1 hk]
  have bt : blockAt g (g (79 + 8 * t + 0)) = blockAt f (after f (f (79 + 8 * t + 0))) := by rw [hct, blockAt_congr (by omega) h1 hk]
  have nx : ∀ b : Int, nextB g b = nextB f b := fun b => by unfold nextB; rw [h1]
  have br := blockAt_rng hW (cr t t0 t1)
  -- the block to which it comes holds no other one, and is not the next one of a train that is just released
  have k1 : ∀ u : Int, 0 ≤ u → u < f 2 → u ≠ t → blockAt f (f (79 + 8 * u + 0)) ≠ blockAt f (after f (f (79 + 8 * t + 0))) := fun u a b e z => by
    by_cases q : f (41 + f (79 + 8 * t + 0)) = 2
    · rw [(after_brake hW (cr t t0 t1) q).1] at z
      exact hA.2 t u t0 t1 a b hm0 q z
    · rw [after_plain hW (cr t t0 t1) q] at z
      exact e (hA.1 u t a b t0 t1 z)
  have k2 : ∀ u : Int, 0 ≤ u → u < f 2 → u ≠ t → f (79 + 8 * u + 4) = 0 → f (41 + f (79 + 8 * u + 0)) = 2 → blockAt f (after f (f (79 + 8 * t + 0))) ≠ nextB f (blockAt f (f (79 + 8 * u + 0))) := fun u a b e m k z => by
    by_cases q : f (41 + f (79 + 8 * t + 0)) = 2
    · rw [(after_brake hW (cr t t0 t1) q).1] at z
      exact e (hA.1 u t a b t0 t1 (nextB_inj hW (blockAt_rng hW (cr u a b)) br z.symm))
    · rw [after_plain hW (cr t t0 t1) q] at z
      exact hA.2 u t a b t0 t1 m k z
  refine ⟨fun u w u0 u1 v0 v1 e => ?_, fun u w u0 u1 v0 v1 m k => ?_⟩
  · rw [h2] at u1 v1
    by_cases q : u = t
    · by_cases p : w = t
      · omega
      · subst q
        rw [bt, bu w v0 v1 p] at e
        exact absurd e.symm (k1 w v0 v1 p)
    · by_cases p : w = t
      · subst p
        rw [bt, bu u u0 u1 q] at e
        exact absurd e (k1 u u0 u1 q)
      · rw [bu u u0 u1 q, bu w v0 v1 p] at e
        exact hA.1 u w u0 u1 v0 v1 e
  · rw [h2] at u1 v1
    rw [nx]
    by_cases q : u = t
    · subst q
      rw [hct, hk _ (by omega) (by omega)] at k
      exact absurd k (hmt m)
    · have c := cr u u0 u1
      rw [hc u u0 u1 q, hk _ (by omega) (by omega)] at k
      have m' := hm u u0 u1 q m
      rw [bu u u0 u1 q]
      by_cases p : w = t
      · subst p
        rw [bt]
        exact k2 u u0 u1 q m' k
      · rw [bu w v0 v1 p]
        exact hA.2 u w u0 u1 v0 v1 m' k
/-- cells and modes behind the parts of a tick -/
theorem stands_cm {f : Int → Int} {t u k : Int} (hk : k = 0 ∨ k = 4 ∨ k = 5) : stands f t (79 + 8 * u + k) = if u = t then (if k = 4 then 1 else if k = 5 then 0 else f (79 + 8 * u + k)) else f (79 + 8 * u + k) := by
  unfold stands
  rw [put_at _ _ _ _ _ _ (by omega) (by omega), put_at _ _ _ _ _ _ (by omega) (by omega), put_at _ _ _ _ _ _ (by omega) (by omega), put_at _ _ _ _ _ _ (by omega) (by omega)]
  rcases hk with rfl | rfl | rfl <;> by_cases q : u = t <;> simp [q]
theorem lies_cm {f : Int → Int} {t u k : Int} (hk : k = 0 ∨ k = 4 ∨ k = 5) : lies f t (79 + 8 * u + k) = if u = t ∧ k = 4 then 2 else f (79 + 8 * u + k) := by
  unfold lies
  rw [put_at _ _ _ _ _ _ (by omega) (by omega), put_at _ _ _ _ _ _ (by omega) (by omega), put_at _ _ _ _ _ _ (by omega) (by omega)]
  rcases hk with rfl | rfl | rfl <;> by_cases q : u = t <;> simp [q]
theorem runs_cm {f : Int → Int} {t u k : Int} (hk : k = 0 ∨ k = 4 ∨ k = 5) : runs f t (79 + 8 * u + k) = if u = t then (if k = 0 then f (79 + 8 * u + k) else 0) else f (79 + 8 * u + k) := by
  unfold runs
  rw [put_at _ _ _ _ _ _ (by omega) (by omega), put_at _ _ _ _ _ _ (by omega) (by omega), put_at _ _ _ _ _ _ (by omega) (by omega), put_at _ _ _ _ _ _ (by omega) (by omega)]
  rcases hk with rfl | rfl | rfl <;> by_cases q : u = t <;> simp [q]
theorem came_cm {f : Int → Int} {t u k sq : Int} (hk : k = 0 ∨ k = 4 ∨ k = 5) : came f t sq (79 + 8 * u + k) = if u = t ∧ k = 0 then after f (f (79 + 8 * t + 0)) else f (79 + 8 * u + k) := by
  unfold came
  rw [put_at _ _ _ _ _ _ (by omega) (by omega), put_at _ _ _ _ _ _ (by omega) (by omega), put_at _ _ _ _ _ _ (by omega) (by omega)]
  rcases hk with rfl | rfl | rfl <;> by_cases q : u = t <;> simp [q]
theorem comes_cm {f : Int → Int} {t u k : Int} (hW : Wf f) (ht : 0 ≤ t ∧ t < 4) (hu : 0 ≤ u) (hk : k = 0 ∨ k = 4 ∨ k = 5) : comes f t (79 + 8 * u + k) = if u = t then (if k = 4 then 1 else if k = 5 then 0 else f (79 + 8 * u + k)) else f (79 + 8 * u + k) := by
  have hb := blockAt_rng hW (hW.2.2.2.2.2.2 t ht.1 ht.2).1
  have w1 := hW.2.1
  unfold comes
  rw [put_at _ _ _ _ _ _ (by omega) (by omega), if_neg (by omega), zu_n (by omega), stands_cm hk]
theorem disp_cm {f : Int → Int} {t i : Int} (hk : 0 ≤ f 10 ∧ f 10 ≤ 30) (h0 : 11 ≤ i) (h : i < 111) : dispatches f t i = f i := disp_out hk h (by omega) (by omega) (by omega)
theorem room30_hi {f : Int → Int} {i : Int} (h : 111 ≤ i) (h2 : i < 169) : room30 f i = if f 10 = 30 then f (i + 2) else f i := by
  unfold room30
  by_cases e : f 10 = 30
  · rw [if_pos e, if_pos e, zu_n (by omega), shl_in f 58 h (by omega)]
  · rw [if_neg e, if_neg e]
theorem Lg_congr {f g : Int → Int} (h : Lg f) (h10 : 0 ≤ f 10 ∧ f 10 ≤ 30) (h8 : 0 ≤ f 8) (e : ∀ i : Int, 8 ≤ i → i ≤ 10 → g i = f i) (e2 : ∀ i : Int, 111 ≤ i → i < 171 → g i = f i) : Lg g := by
  obtain ⟨a, b, c⟩ := h
  unfold Lg
  rw [e 8 (by omega) (by omega), e 9 (by omega) (by omega), e 10 (by omega) (by omega)]
  refine ⟨a, b, fun q => ?_⟩
  obtain ⟨c1, c2⟩ := c q
  have : 1 ≤ f 10 := by rw [a]; split <;> omega
  exact ⟨by rw [e2 _ (by omega) (by omega)]; exact c1, c2⟩
theorem Lg_disp {f : Int → Int} {t : Int} (h : Lg f) (h8 : 0 ≤ f 8) (h3 : 0 ≤ f 3) : Lg (dispatches f t) := by
  obtain ⟨a, b, c⟩ := h
  have h10 : 0 ≤ f 10 ∧ f 10 ≤ 30 := by rw [a]; split <;> omega
  have r := room30_10 h10
  have e8 : dispatches f t 8 = f 8 + 1 := by unfold dispatches; rw [logd_8, room30_out (by omega) (by omega)]
  have e9 : dispatches f t 9 = f 3 := by unfold dispatches; rw [logd_9, room30_out (by omega) (by omega)]
  have e10 : dispatches f t 10 = room30 f 10 + 1 := by unfold dispatches; rw [logd_10]
  have e11 : dispatches f t (111 + 2 * room30 f 10) = f 3 := by
    unfold dispatches logd
    rw [zu_n (by omega), zu_n (by omega), zu_n (by omega), zu_n (by omega), zu_s, room30_out (by omega) (by omega)]
  unfold Lg
  rw [e8, e9, e10]
  refine ⟨by rw [r.1, a]; split <;> split <;> omega, fun q => by omega, fun _ => ⟨?_, h3⟩⟩
  rw [show room30 f 10 + 1 - 1 = room30 f 10 by omega, e11]
def Kp (f : Int → Int) : Prop := Ap f ∧ Lg f ∧ Sd f
theorem Sd_congr {f g : Int → Int} (h : Sd f) (h2 : g 2 = f 2) (e : ∀ u : Int, 0 ≤ u → u < f 2 → (g (79 + 8 * u + 4) ≠ 1 → f (79 + 8 * u + 4) ≠ 1 ∧ g (79 + 8 * u + 5) = f (79 + 8 * u + 5)) ∨ g (79 + 8 * u + 5) = 0) : Sd g := by
  intro t t0 t1 hm
  rw [h2] at t1
  rcases e t t0 t1 with q | q
  · obtain ⟨a, b⟩ := q hm
    rw [b]; exact h t t0 t1 a
  · exact q
/-- fields that are neither cell nor mode nor the ticks of standing -/
theorem Kp_put {f : Int → Int} {t w v : Int} (h : Kp f) (hJ : Jy f) (ht : 0 ≤ t ∧ t < 4) (hw : 0 ≤ w ∧ w < 8) (h0 : w ≠ 0) (h4 : w ≠ 4) (h5 : w ≠ 5) : Kp (put f t w v) := by
  obtain ⟨hW, hN, -⟩ := hJ.f
  have n8 := hN.2.2.2.2.2.1; have n10 := hN.2.2.2.2.2.2.2
  refine ⟨Ap_gen h.1 hW (put_n (by omega)) (put_n (by omega)) (fun i _ _ => put_n (by omega)) (fun u _ _ => put_n (by omega)) (fun u _ _ m => Or.inl (by rw [put_n (by omega)] at m; exact m)), ?_, ?_⟩
  · exact Lg_congr h.2.1 n10 n8.1 (fun i _ _ => put_n (by omega)) (fun i _ _ => put_n (by omega))
  · exact Sd_congr h.2.2 (put_n (by omega)) (fun u _ _ => Or.inl (fun m => by rw [put_n (by omega)] at m; exact ⟨m, put_n (by omega)⟩))
theorem Kp_lies {f : Int → Int} {t : Int} (h : Kp f) (hJ : Jy f) (ht : 0 ≤ t ∧ t < f 2) (hm : f (79 + 8 * t + 4) ≠ 1) : Kp (lies f t) := by
  obtain ⟨hW, hN, -⟩ := hJ.f
  have n8 := hN.2.2.2.2.2.1; have n10 := hN.2.2.2.2.2.2.2; have w2 := hW.2.2.1
  refine ⟨Ap_gen h.1 hW (lies_2 ht.1 (by omega)) (lies_2 ht.1 (by omega)) (fun i _ _ => lies_2 ht.1 (by omega)) (fun u _ _ => by rw [lies_cm (Or.inl rfl), if_neg (by omega)]) (fun u _ _ m => Or.inl ?_), ?_, ?_⟩
  · rw [lies_cm (Or.inr (Or.inl rfl))] at m
    by_cases q : u = t
    · rw [if_pos ⟨q, rfl⟩] at m; omega
    · rw [if_neg (fun z => q z.1)] at m; exact m
  · exact Lg_congr h.2.1 n10 n8.1 (fun i _ _ => lies_2 ht.1 (by omega)) (fun i _ _ => by unfold lies; rw [put_n (by omega), put_n (by omega), put_n (by omega)])
  · refine Sd_congr h.2.2 (lies_2 ht.1 (by omega)) (fun u _ _ => Or.inl (fun m => ?_))
    rw [lies_cm (Or.inr (Or.inl rfl))] at m
    rw [lies_cm (Or.inr (Or.inr rfl)), if_neg (by omega)]
    by_cases q : u = t
    · subst q; exact ⟨hm, rfl⟩
    · rw [if_neg (fun z => q z.1)] at m; exact ⟨m, rfl⟩
theorem waits_p5 {f : Int → Int} {t v : Int} (h : Kp f) (hJ : Jy f) (ht : 0 ≤ t ∧ t < f 2) (hm : f (79 + 8 * t + 4) = 1) : Kp (put f t 5 v) := by
  obtain ⟨hW, hN, -⟩ := hJ.f
  have n8 := hN.2.2.2.2.2.1; have n10 := hN.2.2.2.2.2.2.2; have w2 := hW.2.2.1
  refine ⟨Ap_gen h.1 hW (put_n (by omega)) (put_n (by omega)) (fun i _ _ => put_n (by omega)) (fun u _ _ => put_n (by omega)) (fun u _ _ m => Or.inl (by rw [put_n (by omega)] at m; exact m)), ?_, ?_⟩
  · exact Lg_congr h.2.1 n10 n8.1 (fun i _ _ => put_n (by omega)) (fun i _ _ => put_n (by omega))
  · refine Sd_congr h.2.2 (put_n (by omega)) (fun u _ _ => Or.inl (fun m => ?_))
    rw [put_n (by omega)] at m
    by_cases q : u = t
    · subst q; exact absurd hm m
    · exact ⟨m, put_n (by omega)⟩
theorem holds_5 {f : Int → Int} {t s : Int} (h : holds f t s = 5) : isFree f (nextB f (blockAt f (f (79 + 8 * t + 0)))) = true := by
  unfold holds at h
  by_cases q : isFree f (nextB f (blockAt f (f (79 + 8 * t + 0)))) = true
  · exact q
  · rw [if_neg q] at h; omega
theorem Kp_runs {f : Int → Int} {t : Int} (h : Kp f) (hJ : Jy f) (ht : 0 ≤ t ∧ t < f 2) (hf : trainIn f (nextB f (blockAt f (f (79 + 8 * t + 0)))) = -1) : Kp (runs f t) := by
  obtain ⟨hW, hN, -⟩ := hJ.f
  have n8 := hN.2.2.2.2.2.1; have n10 := hN.2.2.2.2.2.2.2; have w2 := hW.2.2.1
  have o : ∀ i : Int, i < 79 ∨ 111 ≤ i → runs f t i = f i := fun i hi => by unfold runs; rw [put_n (by omega), put_n (by omega), put_n (by omega), put_n (by omega)]
  refine ⟨Ap_gen h.1 hW (o _ (by omega)) (o _ (by omega)) (fun i _ _ => o _ (by omega)) (fun u _ _ => by rw [runs_cm (Or.inl rfl), if_pos rfl]; split <;> rfl) (fun u u0 u1 m => ?_), ?_, ?_⟩
  · by_cases q : u = t
    · subst q; exact Or.inr (fun w a b => trainIn_none hf a b)
    · rw [runs_cm (Or.inr (Or.inl rfl)), if_neg q] at m; exact Or.inl m
  · exact Lg_congr h.2.1 n10 n8.1 (fun i _ _ => o _ (by omega)) (fun i _ _ => o _ (by omega))
  · refine Sd_congr h.2.2 (o _ (by omega)) (fun u _ _ => ?_)
    by_cases q : u = t
    · exact Or.inr (by rw [runs_cm (Or.inr (Or.inr rfl)), if_pos q, if_neg (by omega)])
    · exact Or.inl (fun m => by rw [runs_cm (Or.inr (Or.inl rfl)), if_neg q] at m; exact ⟨m, by rw [runs_cm (Or.inr (Or.inr rfl)), if_neg q]⟩)
theorem Kp_disp {f : Int → Int} {t : Int} (h : Kp f) (hJ : Jy f) : Kp (dispatches f t) := by
  obtain ⟨hW, hN, -⟩ := hJ.f
  have n8 := hN.2.2.2.2.2.1; have n10 := hN.2.2.2.2.2.2.2; have w2 := hW.2.2.1; have n3 := hN.1
  have o : ∀ i : Int, i < 111 → i ≠ 8 → i ≠ 9 → i ≠ 10 → dispatches f t i = f i := fun i a b c d => disp_out n10 a b c d
  refine ⟨Ap_gen h.1 hW (o _ (by omega) (by omega) (by omega) (by omega)) (o _ (by omega) (by omega) (by omega) (by omega)) (fun i _ _ => o _ (by omega) (by omega) (by omega) (by omega)) (fun u _ _ => o _ (by omega) (by omega) (by omega) (by omega)) (fun u _ _ m => Or.inl (by rw [o _ (by omega) (by omega) (by omega) (by omega)] at m; exact m)), Lg_disp h.2.1 n8.1 n3.1, ?_⟩
  exact Sd_congr h.2.2 (o _ (by omega) (by omega) (by omega) (by omega)) (fun u _ _ => Or.inl (fun m => by rw [o _ (by omega) (by omega) (by omega) (by omega)] at m; exact ⟨m, o _ (by omega) (by omega) (by omega) (by omega)⟩))
