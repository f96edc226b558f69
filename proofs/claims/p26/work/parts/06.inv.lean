/-! What is kept by the parts of a tick -/
theorem zu_zu (f : Int → Int) (i x y : Int) : zu (zu f i x) i y = zu f i y := by
  funext j; unfold zu; by_cases h : j = i <;> simp [h]
theorem zu_comm {f : Int → Int} {i j x y : Int} (h : i ≠ j) : zu (zu f i x) j y = zu (zu f j y) i x := by
  funext k; unfold zu
  by_cases h1 : k = i
  · subst h1; simp [h]
  · by_cases h2 : k = j
    · subst h2; simp [h1]
    · simp [h1, h2]
theorem zu_id {f : Int → Int} {i x : Int} (h : f i = x) : zu f i x = f := by
  funext j; unfold zu; by_cases q : j = i
  · subst q; simp [h]
  · simp [q]
/-- a train's numbers -/
def Tn (f : Int → Int) (t B : Int) : Prop := (0 ≤ f (79 + 8 * t + 1) ∧ f (79 + 8 * t + 1) ≤ 9999) ∧ (0 ≤ f (79 + 8 * t + 2) ∧ f (79 + 8 * t + 2) ≤ 99) ∧ (0 ≤ f (79 + 8 * t + 3) ∧ f (79 + 8 * t + 3) ≤ 100) ∧ (0 ≤ f (79 + 8 * t + 5) ∧ f (79 + 8 * t + 5) ≤ B) ∧ (0 ≤ f (79 + 8 * t + 7) ∧ f (79 + 8 * t + 7) ≤ B)
def Sn (f : Int → Int) (T D : Int) : Prop := (0 ≤ f 4 ∧ f 4 ≤ 20) ∧ (1 ≤ f 5 ∧ f 5 ≤ 50) ∧ (0 ≤ f 6 ∧ f 6 ≤ 500) ∧ (0 ≤ f 7 ∧ f 7 ≤ 40) ∧ (f 3 = T ∧ 0 ≤ T ∧ T ≤ 110000) ∧ (0 ≤ f 8 ∧ f 8 ≤ D ∧ D ≤ 900000) ∧ (-1 ≤ f 9 ∧ f 9 ≤ T) ∧ (0 ≤ f 10 ∧ f 10 ≤ 30)
def J (f : Int → Int) (T D : Int) (B : Int → Int) : Prop := Wf f ∧ Sn f T D ∧ ∀ t : Int, 0 ≤ t → t < 4 → Tn f t (B t) ∧ B t ≤ 120000
theorem J_Ns {f : Int → Int} {T D : Int} {B : Int → Int} (h : J f T D B) : Ns f := by
  obtain ⟨-, ⟨a1, a2, a3, a4, a5, a6, a7, a8⟩, -⟩ := h
  unfold Ns; omega
theorem J_put {f : Int → Int} {T D t w v : Int} {B : Int → Int} (h : J f T D B) (ht : 0 ≤ t ∧ t < 4) (hw : 0 ≤ w ∧ w < 8)
    (h0 : w = 0 → 0 ≤ v ∧ v < f 0) (h1 : w = 1 → 0 ≤ v ∧ v ≤ 9999) (h2 : w = 2 → 0 ≤ v ∧ v ≤ 99) (h3 : w = 3 → 0 ≤ v ∧ v ≤ 100) (h4 : w = 4 → 0 ≤ v ∧ v ≤ 2) (h5 : w = 5 → 0 ≤ v ∧ v ≤ B t) (h7 : w = 7 → 0 ≤ v ∧ v ≤ B t) : J (put f t w v) T D B := by
  obtain ⟨hW, hS, hT⟩ := h
  refine ⟨?_, ?_, fun t' t0 t1 => ⟨?_, (hT t' t0 t1).2⟩⟩
  · by_cases e : w = 0
    · subst e; exact Wf_put0 hW ht (h0 rfl)
    · exact Wf_put hW ht (by omega) h4
  · unfold Sn at hS ⊢
    rw [put_n (show (4 : Int) ≠ 79 + 8 * t + w by omega), put_n (show (5 : Int) ≠ 79 + 8 * t + w by omega), put_n (show (6 : Int) ≠ 79 + 8 * t + w by omega), put_n (show (7 : Int) ≠ 79 + 8 * t + w by omega), put_n (show (3 : Int) ≠ 79 + 8 * t + w by omega), put_n (show (8 : Int) ≠ 79 + 8 * t + w by omega), put_n (show (9 : Int) ≠ 79 + 8 * t + w by omega), put_n (show (10 : Int) ≠ 79 + 8 * t + w by omega)]
    exact hS
  · have k := (hT t' t0 t1).1
    by_cases e : t' = t
    · subst e
      unfold Tn at k ⊢
      have g : ∀ u : Int, put f t' w v (79 + 8 * t' + u) = if u = w then v else f (79 + 8 * t' + u) := by
        intro u
        by_cases q : u = w
        · rw [if_pos q, q, put_s]
        · rw [if_neg q, put_n (by omega)]
      simp only [g]
      refine ⟨?_, ?_, ?_, ?_, ?_⟩
      · split <;> rename_i q
        · exact h1 q.symm
        · exact k.1
      · split <;> rename_i q
        · exact h2 q.symm
        · exact k.2.1
      · split <;> rename_i q
        · exact h3 q.symm
        · exact k.2.2.1
      · split <;> rename_i q
        · exact h5 q.symm
        · exact k.2.2.2.1
      · split <;> rename_i q
        · exact h7 q.symm
        · exact k.2.2.2.2
    · unfold Tn at k ⊢
      rw [put_n (show 79 + 8 * t' + 1 ≠ 79 + 8 * t + w by omega), put_n (show 79 + 8 * t' + 2 ≠ 79 + 8 * t + w by omega), put_n (show 79 + 8 * t' + 3 ≠ 79 + 8 * t + w by omega), put_n (show 79 + 8 * t' + 5 ≠ 79 + 8 * t + w by omega), put_n (show 79 + 8 * t' + 7 ≠ 79 + 8 * t + w by omega)]
      exact k
/-- a write elsewhere: the waits, the log -/
theorem J_out {f g : Int → Int} {T D : Int} {B : Int → Int} (h : J f T D B) (e : ∀ i : Int, 0 ≤ i → i < 71 → g i = f i) (e2 : ∀ i : Int, 79 ≤ i → i < 111 → g i = f i) : J g T D B := by
  obtain ⟨hW, hS, hT⟩ := h
  refine ⟨Wf_congr hW (fun i a b => e i a (by omega)) (fun i a b => e i (by omega) b) (fun t t0 t1 => ?_), ?_, fun t t0 t1 => ⟨?_, (hT t t0 t1).2⟩⟩
  · rw [e2 _ (by omega) (by omega), e2 _ (by omega) (by omega)]
    exact hW.2.2.2.2.2.2 t t0 t1
  · unfold Sn at hS ⊢
    rw [e 3 (by omega) (by omega), e 4 (by omega) (by omega), e 5 (by omega) (by omega), e 6 (by omega) (by omega), e 7 (by omega) (by omega), e 8 (by omega) (by omega), e 9 (by omega) (by omega), e 10 (by omega) (by omega)]
    exact hS
  · have k := (hT t t0 t1).1
    unfold Tn at k ⊢
    rw [e2 _ (by omega) (by omega), e2 _ (by omega) (by omega), e2 _ (by omega) (by omega), e2 _ (by omega) (by omega), e2 _ (by omega) (by omega)]
    exact k
theorem J_stands {f : Int → Int} {T D t : Int} {B : Int → Int} (h : J f T D B) (ht : 0 ≤ t ∧ t < 4) : J (stands f t) T D B := by
  have hB : 0 ≤ B t := by have := (h.2.2 t ht.1 ht.2).1.2.2.2.1; omega
  have a := J_put (w := 4) (v := 1) h ht (by omega) (by omega) (by omega) (by omega) (by omega) (by omega) (by omega) (by omega)
  have b := J_put (w := 1) (v := 0) a ht (by omega) (by omega) (by omega) (by omega) (by omega) (by omega) (by omega) (by omega)
  have c := J_put (w := 2) (v := 0) b ht (by omega) (by omega) (by omega) (by omega) (by omega) (by omega) (by omega) (by omega)
  exact J_put (w := 5) (v := 0) c ht (by omega) (by omega) (by omega) (by omega) (by omega) (by omega) (by omega) (by omega)
theorem J_lies {f : Int → Int} {T D t : Int} {B : Int → Int} (h : J f T D B) (ht : 0 ≤ t ∧ t < 4) : J (lies f t) T D B := by
  have a := J_put (w := 4) (v := 2) h ht (by omega) (by omega) (by omega) (by omega) (by omega) (by omega) (by omega) (by omega)
  have b := J_put (w := 1) (v := 0) a ht (by omega) (by omega) (by omega) (by omega) (by omega) (by omega) (by omega) (by omega)
  exact J_put (w := 2) (v := 0) b ht (by omega) (by omega) (by omega) (by omega) (by omega) (by omega) (by omega) (by omega)
theorem J_runs {f : Int → Int} {T D t : Int} {B : Int → Int} (h : J f T D B) (ht : 0 ≤ t ∧ t < 4) : J (runs f t) T D B := by
  have hB : 0 ≤ B t := by have := (h.2.2 t ht.1 ht.2).1.2.2.2.1; omega
  have a := J_put (w := 4) (v := 0) h ht (by omega) (by omega) (by omega) (by omega) (by omega) (by omega) (by omega) (by omega)
  have b := J_put (w := 1) (v := 25) a ht (by omega) (by omega) (by omega) (by omega) (by omega) (by omega) (by omega) (by omega)
  have c := J_put (w := 2) (v := 0) b ht (by omega) (by omega) (by omega) (by omega) (by omega) (by omega) (by omega) (by omega)
  exact J_put (w := 5) (v := 0) c ht (by omega) (by omega) (by omega) (by omega) (by omega) (by omega) (by omega) (by omega)
theorem shl_out (f : Int → Int) (n : Nat) {i : Int} (h : i < 111 ∨ 111 + (n : Int) ≤ i) : shl f n i = f i := by
  induction n with
  | zero => rfl
  | succ n ih =>
    simp only [shl]
    rw [zu_n (by omega)]
    exact ih (by omega)
theorem shl_in (f : Int → Int) (n : Nat) {i : Int} (h0 : 111 ≤ i) (h : i < 111 + (n : Int)) : shl f n i = f (i + 2) := by
  induction n with
  | zero => omega
  | succ n ih =>
    simp only [shl]
    by_cases e : i = 111 + (n : Int)
    · subst e
      rw [zu_s, shl_out f n (by omega)]
    · rw [zu_n e]
      exact ih (by omega)
theorem room30_out {f : Int → Int} {i : Int} (h : i < 111) (h2 : i ≠ 10) : room30 f i = f i := by
  unfold room30
  split
  · rw [zu_n h2, shl_out f 58 (by omega)]
  · rfl
theorem room30_10 {f : Int → Int} (h : 0 ≤ f 10 ∧ f 10 ≤ 30) : room30 f 10 = (if f 10 = 30 then 29 else f 10) ∧ 0 ≤ room30 f 10 ∧ room30 f 10 ≤ 29 := by
  unfold room30
  by_cases e : f 10 = 30
  · rw [if_pos e, if_pos e, zu_s, shl_out f 58 (by omega), e]; omega
  · rw [if_neg e, if_neg e]; omega
theorem logd_out {f : Int → Int} {t i : Int} (h : i < 111) (h0 : 0 ≤ f 10) (h2 : i ≠ 8) (h3 : i ≠ 9) (h4 : i ≠ 10) : logd f t i = f i := by
  unfold logd
  rw [zu_n h3, zu_n h2, zu_n h4, zu_n (by omega), zu_n (by omega)]
theorem logd_8 {f : Int → Int} {t : Int} : logd f t 8 = f 8 + 1 := by
  unfold logd; rw [zu_n (by omega), zu_s]
theorem logd_9 {f : Int → Int} {t : Int} : logd f t 9 = f 3 := by
  unfold logd; rw [zu_s]
theorem logd_10 {f : Int → Int} {t : Int} : logd f t 10 = f 10 + 1 := by
  unfold logd; rw [zu_n (by omega), zu_n (by omega), zu_s]
theorem disp_out {f : Int → Int} {t i : Int} (hk : 0 ≤ f 10 ∧ f 10 ≤ 30) (h : i < 111) (h2 : i ≠ 8) (h3 : i ≠ 9) (h4 : i ≠ 10) : dispatches f t i = f i := by
  unfold dispatches
  rw [logd_out h (room30_10 hk).2.1 h2 h3 h4, room30_out h h4]
theorem J_dispatches {f : Int → Int} {T D t : Int} {B : Int → Int} (h : J f T D B) (hD : D + 1 ≤ 900000) : J (dispatches f t) T (D + 1) B := by
  obtain ⟨hW, hS, hT⟩ := h
  have hk : 0 ≤ f 10 ∧ f 10 ≤ 30 := hS.2.2.2.2.2.2.2
  have o : ∀ i : Int, i < 111 → i ≠ 8 → i ≠ 9 → i ≠ 10 → dispatches f t i = f i := fun i a b c d => disp_out hk a b c d
  have r := room30_10 hk
  refine ⟨Wf_congr hW (fun i a b => o i (by omega) (by omega) (by omega) (by omega)) (fun i a b => o i (by omega) (by omega) (by omega) (by omega)) (fun t' t0 t1 => ?_), ?_, fun t' t0 t1 => ⟨?_, (hT t' t0 t1).2⟩⟩
  · rw [o _ (by omega) (by omega) (by omega) (by omega), o _ (by omega) (by omega) (by omega) (by omega)]
    exact hW.2.2.2.2.2.2 t' t0 t1
  · obtain ⟨a1, a2, a3, a4, a5, a6, a7, a8⟩ := hS
    have e8 : dispatches f t 8 = f 8 + 1 := by unfold dispatches; rw [logd_8, room30_out (by omega) (by omega)]
    have e9 : dispatches f t 9 = f 3 := by unfold dispatches; rw [logd_9, room30_out (by omega) (by omega)]
    have e10 : dispatches f t 10 = room30 f 10 + 1 := by unfold dispatches; rw [logd_10]
    unfold Sn
    rw [o 3 (by omega) (by omega) (by omega) (by omega), o 4 (by omega) (by omega) (by omega) (by omega), o 5 (by omega) (by omega) (by omega) (by omega), o 6 (by omega) (by omega) (by omega) (by omega), o 7 (by omega) (by omega) (by omega) (by omega), e8, e9, e10]
    omega
  · have k := (hT t' t0 t1).1
    unfold Tn at k ⊢
    rw [o _ (by omega) (by omega) (by omega) (by omega), o _ (by omega) (by omega) (by omega) (by omega), o _ (by omega) (by omega) (by omega) (by omega), o _ (by omega) (by omega) (by omega) (by omega), o _ (by omega) (by omega) (by omega) (by omega)]
    exact k
theorem J_D {f : Int → Int} {T D D' : Int} {B : Int → Int} (h : J f T D B) (h1 : D ≤ D') (h2 : D' ≤ 900000) : J f T D' B := by
  obtain ⟨hW, ⟨a1, a2, a3, a4, a5, a6, a7, a8⟩, hT⟩ := h
  exact ⟨hW, ⟨a1, a2, a3, a4, a5, ⟨a6.1, by omega, h2⟩, a7, a8⟩, hT⟩
theorem J_B {f : Int → Int} {T D : Int} {B B' : Int → Int} (h : J f T D B) (h1 : ∀ t : Int, 0 ≤ t → t < 4 → B t ≤ B' t ∧ B' t ≤ 120000) : J f T D B' := by
  obtain ⟨hW, hS, hT⟩ := h
  refine ⟨hW, hS, fun t t0 t1 => ⟨?_, (h1 t t0 t1).2⟩⟩
  have k := (hT t t0 t1).1
  have b := (h1 t t0 t1).1
  unfold Tn at k ⊢
  omega
theorem J_waits {f : Int → Int} {T D t : Int} {B B' : Int → Int} (h : J f T D B) (ht : 0 ≤ t ∧ t < 4) (hD : D + 1 ≤ 900000) (hB : ∀ t' : Int, 0 ≤ t' → t' < 4 → B t' ≤ B' t' ∧ B' t' ≤ 120000) (hB2 : B t + 1 ≤ B' t) : J (waits f t) T (D + 1) B' := by
  have hs := (h.2.2 t ht.1 ht.2).1.2.2.2.1
  have h' := J_B h hB
  have a := J_put (w := 5) (v := f (79 + 8 * t + 5) + 1) h' ht (by omega) (by omega) (by omega) (by omega) (by omega) (by omega) (by omega) (by omega)
  unfold waits
  split
  · refine J_runs ?_ ht
    split
    · exact J_dispatches a hD
    · exact J_D a (by omega) hD
  · exact J_D a (by omega) hD
theorem J_comes {f : Int → Int} {T D t : Int} {B B' : Int → Int} (h : J f T D B) (ht : 0 ≤ t ∧ t < 4) (hB : ∀ t' : Int, 0 ≤ t' → t' < 4 → B t' ≤ B' t' ∧ B' t' ≤ 120000) (hB2 : B t + 1 ≤ B' t) : J (comes f t) T D B' := by
  have hs := (h.2.2 t ht.1 ht.2).1.2.2.2.2
  have hb := blockAt_rng h.1 (h.1.2.2.2.2.2.2 t ht.1 ht.2).1
  have h1 := h.1.2.1
  have a := J_stands (J_B h hB) ht
  unfold comes
  refine J_put (J_out a (fun i _ _ => zu_n (by omega)) (fun i _ _ => zu_n (by omega))) ht (by omega) (by omega) (by omega) (by omega) (by omega) (by omega) (by omega) (fun _ => ?_)
  split <;> omega
theorem squareOn_le (f : Int → Int) (a b s d : Int) : squareOn f a b s d ≤ 9999 := by unfold squareOn; split <;> omega
theorem came_J {f : Int → Int} {T D t sq : Int} {B : Int → Int} (h : J f T D B) (ht : 0 ≤ t ∧ t < 4) (hsq : 0 ≤ sq ∧ sq ≤ 9999) : J (came f t sq) T D B := by
  have k0 := (h.1.2.2.2.2.2.2 t ht.1 ht.2).1
  have k1 := after_rng h.1 k0
  unfold came
  have a := J_put (w := 0) (v := after f (f (79 + 8 * t + 0))) h ht (by omega) (fun _ => k1) (by omega) (by omega) (by omega) (by omega) (by omega) (by omega)
  have b := J_put (w := 6) (v := f (79 + 8 * t + 6) + 1) a ht (by omega) (by omega) (by omega) (by omega) (by omega) (by omega) (by omega) (by omega)
  exact J_put b ht (by omega) (by omega) (by omega) (by omega) (by omega) (by omega) (by omega) (by omega)
theorem J_moves {f : Int → Int} {T D t : Int} {B B' : Int → Int} (h : J f T D B) (ht : 0 ≤ t ∧ t < 4) (hB : ∀ t' : Int, 0 ≤ t' → t' < 4 → B t' ≤ B' t' ∧ B' t' ≤ 120000) (hB2 : B t + 1 ≤ B' t) : J (moves f t) T D B' := by
  have le := squareOn_le f (f (79 + 8 * t + 0)) (after f (f (79 + 8 * t + 0))) (f (79 + 8 * t + 1)) (drag f t)
  unfold moves
  split
  · exact J_lies (J_B h hB) ht
  · split
    · exact J_comes (came_J h ht (by omega)) ht hB hB2
    · split
      · exact J_lies (came_J (J_B h hB) ht (by omega)) ht
      · exact came_J (J_B h hB) ht (by omega)
theorem put_put (f : Int → Int) (t w x y : Int) : put (put f t w x) t w y = put f t w y := zu_zu _ _ _ _
theorem by_rng {f : Int → Int} {T D t : Int} {B : Int → Int} (h : J f T D B) (ht : 0 ≤ t ∧ t < 4) : 0 ≤ by' f t ∧ by' f t ≤ 99 := by
  have k := (h.2.2 t ht.1 ht.2).1.1
  have r := root_spec k
  unfold by'
  split <;> omega
theorem J_goes {f : Int → Int} {T D t : Int} {B B' : Int → Int} (h : J f T D B) (ht : 0 ≤ t ∧ t < 4) (hB : ∀ t' : Int, 0 ≤ t' → t' < 4 → B t' ≤ B' t' ∧ B' t' ≤ 120000) (hB2 : B t + 1 ≤ B' t) : J (goes f t) T D B' := by
  have k := (h.2.2 t ht.1 ht.2).1.2.1
  have b := by_rng h ht
  unfold goes
  split
  · exact J_put (J_B h hB) ht (by omega) (by omega) (by omega) (by omega) (by omega) (by omega) (by omega) (by omega)
  · rw [put_put]
    exact J_moves (J_put h ht (by omega) (by omega) (by omega) (by omega) (by omega) (by omega) (by omega) (by omega)) ht hB hB2
theorem heat_rng {f : Int → Int} {T D t : Int} {B : Int → Int} (h : J f T D B) (ht : 0 ≤ t ∧ t < 4) : 0 ≤ heat f t ∧ heat f t ≤ 109 := by
  have k := (h.2.2 t ht.1 ht.2).1
  have r := root_spec k.1
  have w := k.2.2.1
  unfold heat
  split <;> omega
theorem J_warms {f : Int → Int} {T D t : Int} {B : Int → Int} (h : J f T D B) (ht : 0 ≤ t ∧ t < 4) : J (warms f t) T D B := by
  have r := heat_rng h ht
  have a := h.2.1.2.2.2.1
  unfold warms
  refine J_put h ht (by omega) (by omega) (by omega) (by omega) (fun _ => ?_) (by omega) (by omega) (by omega)
  unfold near cap100
  split <;> split <;> (try split) <;> (try split) <;> omega
theorem J_step {f : Int → Int} {T D t : Int} {B B' : Int → Int} (h : J f T D B) (ht : 0 ≤ t ∧ t < 4) (hD : D + 1 ≤ 900000) (hB : ∀ t' : Int, 0 ≤ t' → t' < 4 → B t' ≤ B' t' ∧ B' t' ≤ 120000) (hB2 : B t + 1 ≤ B' t) : J (step f t) T (D + 1) B' := by
  unfold step
  refine J_warms ?_ ht
  split
  · exact J_waits h ht hD hB hB2
  · split
    · exact J_D (J_goes h ht hB hB2) (by omega) hD
    · exact J_D (J_B h hB) (by omega) hD
/-- between ticks -/
def Inv (N : Int) (f : Int → Int) : Prop := f 3 ≤ N ∧ J f (f 3) (4 * f 3) (fun _ => f 3)
theorem waits_2 {f : Int → Int} {t : Int} (ht : 0 ≤ t) (hk : 0 ≤ f 10 ∧ f 10 ≤ 30) {i : Int} (hi : 0 ≤ i ∧ i < 79) (h8 : i ≠ 8) (h9 : i ≠ 9) (h10 : i ≠ 10) : waits f t i = f i := by
  have hk2 : 0 ≤ put f t 5 (f (79 + 8 * t + 5) + 1) 10 ∧ put f t 5 (f (79 + 8 * t + 5) + 1) 10 ≤ 30 := by rw [put_n (by omega)]; exact hk
  unfold waits
  split
  · unfold runs
    rw [put_n (by omega), put_n (by omega), put_n (by omega), put_n (by omega)]
    split
    · rw [disp_out hk2 (by omega) h8 h9 h10, put_n (by omega)]
    · rw [put_n (by omega)]
  · rw [put_n (by omega)]
theorem comes_2 {f : Int → Int} {t : Int} (ht : 0 ≤ t) (hW : Wf f) (ht4 : t < 4) {i : Int} (hi : 0 ≤ i ∧ i < 71) : comes f t i = f i := by
  have hb := blockAt_rng hW (hW.2.2.2.2.2.2 t ht ht4).1
  unfold comes stands
  rw [put_n (by omega), zu_n (by omega), put_n (by omega), put_n (by omega), put_n (by omega), put_n (by omega)]
theorem came_2 {f : Int → Int} {t sq : Int} (ht : 0 ≤ t) {i : Int} (hi : i < 79) : came f t sq i = f i := by
  unfold came
  rw [put_n (by omega), put_n (by omega), put_n (by omega)]
theorem lies_2 {f : Int → Int} {t : Int} (ht : 0 ≤ t) {i : Int} (hi : i < 79) : lies f t i = f i := by
  unfold lies
  rw [put_n (by omega), put_n (by omega), put_n (by omega)]
theorem moves_2 {f : Int → Int} {T D t : Int} {B : Int → Int} (h : J f T D B) (ht : 0 ≤ t ∧ t < 4) {i : Int} (hi : 0 ≤ i ∧ i < 71) : moves f t i = f i := by
  have le := squareOn_le f (f (79 + 8 * t + 0)) (after f (f (79 + 8 * t + 0))) (f (79 + 8 * t + 1)) (drag f t)
  unfold moves
  split
  · exact lies_2 ht.1 (by omega)
  · split
    · rw [comes_2 ht.1 (came_J h ht (by omega)).1 ht.2 hi, came_2 ht.1 (by omega)]
    · split
      · rw [lies_2 ht.1 (by omega), came_2 ht.1 (by omega)]
      · rw [came_2 ht.1 (by omega)]
theorem goes_2 {f : Int → Int} {T D t : Int} {B : Int → Int} (h : J f T D B) (ht : 0 ≤ t ∧ t < 4) {i : Int} (hi : 0 ≤ i ∧ i < 71) : goes f t i = f i := by
  have k := (h.2.2 t ht.1 ht.2).1.2.1
  have b := by_rng h ht
  unfold goes
  split
  · rw [put_n (by omega)]
  · rw [put_put, moves_2 (J_put h ht (by omega) (by omega) (by omega) (by omega) (by omega) (by omega) (by omega) (by omega)) ht hi, put_n (by omega)]
theorem step_2 {f : Int → Int} {T D t : Int} {B : Int → Int} (h : J f T D B) (ht : 0 ≤ t ∧ t < 4) {i : Int} (hi : 0 ≤ i ∧ i < 71) (h8 : i ≠ 8) (h9 : i ≠ 9) (h10 : i ≠ 10) : step f t i = f i := by
  unfold step warms
  rw [put_n (by omega)]
  split
  · exact waits_2 ht.1 h.2.1.2.2.2.2.2.2.2 (by omega) h8 h9 h10
  · split
    · exact goes_2 h ht hi
    · rfl
theorem steps_J {N : Int} {f : Int → Int} (h : Inv N f) (hN : N ≤ 110000) (n : Nat) (hn : n ≤ 4) : J (steps f n) (f 3) (4 * f 3 + n) (fun t => if t < (n : Int) then f 3 + 1 else f 3) ∧ ∀ i : Int, 0 ≤ i → i < 71 → i ≠ 8 → i ≠ 9 → i ≠ 10 → steps f n i = f i := by
  have h0 := h.2.2.1.2.2.2.2.1
  have hN := h.1
  induction n with
  | zero =>
    refine ⟨?_, fun i _ _ _ _ _ => rfl⟩
    have e : (fun t : Int => if t < ((0 : Nat) : Int) then f 3 + 1 else f 3) = fun t => if t < 0 then f 3 + 1 else f 3 := rfl
    rw [e]
    exact J_B (J_D h.2 (by omega) (by omega)) (fun t t0 t1 => by rw [if_neg (by omega)]; omega)
  | succ n ih =>
    obtain ⟨a, b⟩ := ih (by omega)
    refine ⟨?_, fun i i0 i1 i8 i9 i10 => ?_⟩
    · have k := J_step (t := (n : Int)) a (by omega) (by omega) (B' := fun t => if t < ((n + 1 : Nat) : Int) then f 3 + 1 else f 3) (fun t t0 t1 => by
        split <;> split <;> omega) (by
        rw [if_neg (by omega), if_pos (by omega)]
        omega)
      have e : 4 * f 3 + (n : Int) + 1 = 4 * f 3 + ((n + 1 : Nat) : Int) := by omega
      rw [← e]
      exact k
    · simp only [steps]
      rw [step_2 a (by omega) ⟨i0, i1⟩ i8 i9 i10]
      exact b i i0 i1 i8 i9 i10
theorem tick_inv {N : Int} {f : Int → Int} (h : Inv N f) (hN : N + 1 ≤ 110000) : Inv (N + 1) (tick f) ∧ ∀ i : Int, 0 ≤ i → i < 71 → i ≠ 3 → i ≠ 8 → i ≠ 9 → i ≠ 10 → tick f i = f i := by
  have h2 := h.2.1.2.2.1
  have h3 := h.2.2.1.2.2.2.2.1
  have hN2 := h.1
  obtain ⟨a, b⟩ := steps_J h (by omega) (f 2).toNat (by omega)
  have e3 : tick f 3 = f 3 + 1 := zu_s _ _ _
  have o : ∀ i : Int, i ≠ 3 → tick f i = steps f (f 2).toNat i := fun i hi => zu_n hi
  refine ⟨⟨by omega, ?_⟩, fun i i0 i1 i3 i8 i9 i10 => by rw [o i i3]; exact b i i0 i1 i8 i9 i10⟩
  obtain ⟨hW, hS, hT⟩ := a
  rw [e3]
  refine ⟨Wf_congr hW (fun i _ _ => o i (by omega)) (fun i _ _ => o i (by omega)) (fun t t0 t1 => ?_), ?_, fun t t0 t1 => ⟨?_, by show f 3 + 1 ≤ 120000; omega⟩⟩
  · rw [o _ (by omega), o _ (by omega)]
    exact hW.2.2.2.2.2.2 t t0 t1
  · unfold Sn at hS ⊢
    rw [e3, o 4 (by omega), o 5 (by omega), o 6 (by omega), o 7 (by omega), o 8 (by omega), o 9 (by omega), o 10 (by omega)]
    omega
  · have k := (hT t t0 t1).1
    unfold Tn at k ⊢
    rw [o _ (by omega), o _ (by omega), o _ (by omega), o _ (by omega), o _ (by omega)]
    dsimp only at k ⊢
    split at k <;> omega
theorem ticks_inv {N : Int} {f : Int → Int} (h : Inv N f) (n : Nat) (hN : N + n ≤ 110000) : Inv (N + n) (ticks f n) ∧ ∀ i : Int, 0 ≤ i → i < 71 → i ≠ 3 → i ≠ 8 → i ≠ 9 → i ≠ 10 → ticks f n i = f i := by
  induction n with
  | zero => exact ⟨by simpa [ticks] using h, fun i _ _ _ _ _ _ => rfl⟩
  | succ n ih =>
    obtain ⟨a, b⟩ := ih (by omega)
    obtain ⟨c, d⟩ := tick_inv a (by omega)
    refine ⟨?_, fun i i0 i1 i3 i8 i9 i10 => ?_⟩
    · have e : N + ((n + 1 : Nat) : Int) = N + n + 1 := by omega
      rw [e]; exact c
    · simp only [ticks]
      rw [d i i0 i1 i3 i8 i9 i10, b i i0 i1 i3 i8 i9 i10]
