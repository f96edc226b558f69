/-! A coaster's state between two calls: the row, the saved rows, how many, the text's bytes, its length -/
abbrev CSt := (Int → Int) × (Nat → Int → Int) × Int × (Int → Int) × Int
/-- no tick of the log is below 0, or far -/
def Lp (f : Int → Int) : Prop := ∀ i : Int, 0 ≤ i → i < f 10 → 0 ≤ f (111 + 2 * i) ∧ f (111 + 2 * i) ≤ 200000
def Ok (f : Int → Int) : Prop := Inv 100000 f ∧ Kp f ∧ Lp f
def svN (sv : Nat → Int → Int) (f : Int → Int) (sm : Int) : Nat → Int → Int := fun k => if sm = 4 then (if k = 3 then f else sv (k + 1)) else (if (k : Int) = sm then f else sv k)
/-- a call that saves, and leaves the row g -/
def savd (st : CSt) (g : Int → Int) : CSt := (g, svN st.2.1 st.1 st.2.2.1, smS st.2.2.1, st.2.2.2)
def undn (st : CSt) : CSt := (st.2.1 (st.2.2.1 - 1).toNat, st.2.1, st.2.2.1 - 1, st.2.2.2)
def txd (st : CSt) (x : Int → Int) (ln : Int) : CSt := (st.1, st.2.1, st.2.2.1, x, ln)
def new0 : CSt := (f1, fun _ _ => 0, 0, fun _ => 0, 0)
def Tie (st : CSt) (S : Nat → Nat → Int → Int) : Prop := (Rel st.1 (S 0) ∧ Ok st.1) ∧ (0 ≤ st.2.2.1 ∧ st.2.2.1 ≤ 4) ∧ (∀ k : Nat, (k : Int) < st.2.2.1 → Rel (st.2.1 k) (S (2 + k)) ∧ Ok (st.2.1 k)) ∧ (0 ≤ st.2.2.2.2 ∧ st.2.2.2.2 ≤ 90) ∧ ∀ k : Int, 0 ≤ k → k < 90 → 0 ≤ st.2.2.2.1 k ∧ st.2.2.2.1 k ≤ 127
theorem tie_save {st : CSt} {g : Int → Int} {S S' : Nat → Nat → Int → Int} (h : Tie st S) (hg : Rel g (S' 0)) (og : Ok g) (hf : Rel st.1 (S' (2 + (if st.2.2.1 = 4 then 3 else st.2.2.1.toNat)))) (hs : ∀ j : Nat, j < (if st.2.2.1 = 4 then 3 else st.2.2.1.toNat) → S' (2 + j) = S (2 + j + (if st.2.2.1 = 4 then 1 else 0))) : Tie (savd st g) S' := by
  obtain ⟨f, sv, sm, x, ln⟩ := st
  obtain ⟨⟨hR, hO⟩, hsm, hTS, hl, hx⟩ := h
  simp only at hR hO hsm hTS hl hx hf hs
  refine ⟨⟨hg, og⟩, ?_, fun k hk2 => ?_, hl, hx⟩
  · show 0 ≤ smS sm ∧ smS sm ≤ 4
    unfold smS; split <;> omega
  · replace hk2 : (k : Int) < smS sm := hk2
    show Rel (svN sv f sm k) (S' (2 + k)) ∧ Ok (svN sv f sm k)
    unfold smS at hk2
    unfold svN
    by_cases h4 : sm = 4
    · rw [if_pos h4] at hf hk2
      rw [if_pos h4, if_pos h4] at hs
      rw [if_pos h4]
      by_cases k3 : k = 3
      · subst k3
        rw [if_pos rfl]
        exact ⟨hf, hO⟩
      · rw [if_neg k3, hs k (by omega)]
        exact hTS (k + 1) (by omega)
    · rw [if_neg h4] at hf hk2
      rw [if_neg h4, if_neg h4] at hs
      rw [if_neg h4]
      by_cases k3 : (k : Int) = sm
      · rw [if_pos k3]
        have e : sm.toNat = k := by omega
        rw [e] at hf
        exact ⟨hf, hO⟩
      · have e2 := hs k (by omega)
        rw [Nat.add_zero] at e2
        rw [if_neg k3, e2]
        exact hTS k (by omega)
/-- a call that changes the trial ride alone -/
theorem tie_trial {st : CSt} {S S' : Nat → Nat → Int → Int} (h : Tie st S) (hs : ∀ j : Nat, j ≠ 1 → S' j = S j) : Tie st S' := by
  obtain ⟨⟨hR, hI⟩, hsm, hTS, hl, hx⟩ := h
  exact ⟨⟨by rw [hs 0 (by omega)]; exact hR, hI⟩, hsm, fun k hk2 => by rw [hs _ (by omega)]; exact hTS k hk2, hl, hx⟩
theorem tie_undo {st : CSt} {S S' : Nat → Nat → Int → Int} (h : Tie st S) (h1 : 1 ≤ st.2.2.1) (h0 : Rel (st.2.1 (st.2.2.1 - 1).toNat) (S' 0)) (hs : ∀ j : Nat, j ≠ 0 → S' j = S j) : Tie (undn st) S' := by
  obtain ⟨f, sv, sm, x, ln⟩ := st
  obtain ⟨⟨hR, hO⟩, hsm, hTS, hl, hx⟩ := h
  simp only at hR hO hsm hTS hl hx h1 h0
  refine ⟨⟨h0, (hTS (sm - 1).toNat (by omega)).2⟩, ?_, fun k hk2 => ?_, hl, hx⟩
  · show 0 ≤ sm - 1 ∧ sm - 1 ≤ 4
    omega
  · replace hk2 : (k : Int) < sm - 1 := hk2
    rw [hs _ (by omega)]
    exact hTS k (by omega)
theorem tie_text {st : CSt} {x' : Int → Int} {ln' : Int} {S : Nat → Nat → Int → Int} (h : Tie st S) (hl : 0 ≤ ln' ∧ ln' ≤ 90) (hx : ∀ k : Int, 0 ≤ k → k < 90 → 0 ≤ x' k ∧ x' k ≤ 127) : Tie (txd st x' ln') S := ⟨h.1, h.2.1, h.2.2.1, hl, hx⟩
/-- a row that shows the same on its 171 places -/
theorem Lp_ext {f g : Int → Int} (h : Lp f) (h10 : 0 ≤ f 10 ∧ f 10 ≤ 30) (e10 : g 10 = f 10) (e : ∀ i : Int, 111 ≤ i → i < 171 → g i = f i) : Lp g := fun i i0 i1 => by
  rw [e10] at i1
  rw [e _ (by omega) (by omega)]
  exact h i i0 i1
theorem Ok_ten {f : Int → Int} (h : Ok f) : 0 ≤ f 10 ∧ f 10 ≤ 30 := (Inv_Jy h.1).f.2.1.2.2.2.2.2.2.2
theorem tie_row {st : CSt} {g : Int → Int} {S : Nat → Nat → Int → Int} (h : Tie st S) (e : ∀ i : Int, 0 ≤ i → i < 171 → g i = st.1 i) : Tie (g, st.2) S := by
  obtain ⟨⟨hR, hI, hK, hL⟩, hr⟩ := h
  obtain ⟨hW, hN, -⟩ := (Inv_Jy hI).f
  exact ⟨⟨rel_ext hR hW hN e, Inv_ext hI e, Kp_ext hK (Inv_Jy hI) e, Lp_ext hL hN.2.2.2.2.2.2.2 (e 10 (by omega) (by omega)) (fun i i0 i1 => e i (by omega) i1)⟩, hr⟩
theorem Lp_disp {f : Int → Int} {t : Int} (h : Lp f) (h10 : 0 ≤ f 10 ∧ f 10 ≤ 30) (h3 : 0 ≤ f 3 ∧ f 3 ≤ 200000) : Lp (dispatches f t) := by
  have r := room30_10 h10
  have e10 : dispatches f t 10 = room30 f 10 + 1 := by unfold dispatches; rw [logd_10]
  intro i i0 i1
  rw [e10] at i1
  unfold dispatches logd
  rw [zu_n (by omega), zu_n (by omega), zu_n (by omega), zu_n (by omega)]
  by_cases q : i = room30 f 10
  · subst q
    rw [zu_s, room30_out (by omega) (by omega)]
    exact h3
  · rw [zu_n (by omega), room30_hi (by omega) (by omega)]
    have := r.1
    by_cases z : f 10 = 30
    · rw [if_pos z] at this ⊢
      rw [show 111 + 2 * i + 2 = 111 + 2 * (i + 1) by omega]
      exact h (i + 1) (by omega) (by omega)
    · rw [if_neg z] at this ⊢
      exact h i i0 (by omega)
theorem Lp_off {f g : Int → Int} (h : Lp f) (h10 : 0 ≤ f 10 ∧ f 10 ≤ 30) (e : ∀ i : Int, i = 10 ∨ 111 ≤ i → g i = f i) : Lp g := Lp_ext h h10 (e 10 (Or.inl rfl)) (fun i i0 _ => e i (Or.inr i0))
theorem Lp_waits {f : Int → Int} {t : Int} (h : Lp f) (h10 : 0 ≤ f 10 ∧ f 10 ≤ 30) (h3 : 0 ≤ f 3 ∧ f 3 ≤ 200000) (ht : 0 ≤ t ∧ t < 4) : Lp (waits f t) := by
  have p : ∀ (g : Int → Int) (w v i : Int), 0 ≤ w → w < 8 → i < 79 ∨ 111 ≤ i → put g t w v i = g i := fun g w v i w0 w1 hi => put_n (by omega)
  have k : Lp (put f t 5 (f (79 + 8 * t + 5) + 1)) := Lp_off h h10 (fun i hi => p _ _ _ _ (by omega) (by omega) (by omega))
  have k10 : 0 ≤ put f t 5 (f (79 + 8 * t + 5) + 1) 10 ∧ put f t 5 (f (79 + 8 * t + 5) + 1) 10 ≤ 30 := by rw [p _ _ _ _ (by omega) (by omega) (by omega)]; exact h10
  have k3 : 0 ≤ put f t 5 (f (79 + 8 * t + 5) + 1) 3 ∧ put f t 5 (f (79 + 8 * t + 5) + 1) 3 ≤ 200000 := by rw [p _ _ _ _ (by omega) (by omega) (by omega)]; exact h3
  unfold waits
  split
  · have r : ∀ g : Int → Int, Lp g → (0 ≤ g 10 ∧ g 10 ≤ 30) → Lp (runs g t) := fun g a b => Lp_off a b (fun i hi => by unfold runs; rw [p _ _ _ _ (by omega) (by omega) (by omega), p _ _ _ _ (by omega) (by omega) (by omega), p _ _ _ _ (by omega) (by omega) (by omega), p _ _ _ _ (by omega) (by omega) (by omega)])
    split
    · refine r _ (Lp_disp k k10 k3) ?_
      have e10 : dispatches (put f t 5 (f (79 + 8 * t + 5) + 1)) t 10 = room30 (put f t 5 (f (79 + 8 * t + 5) + 1)) 10 + 1 := by unfold dispatches; rw [logd_10]
      have := (room30_10 k10).2
      omega
    · exact r _ k k10
  · exact k
theorem goes_lg {f : Int → Int} {t i : Int} (hJ : Jx f) (ht : 0 ≤ t ∧ t < 4) (hi : i = 10 ∨ 111 ≤ i) : goes f t i = f i := by
  obtain ⟨T, D, B, h, -, -⟩ := hJ
  rcases hi with rfl | hi
  · exact goes_2 h ht (by omega)
  · have k := (h.2.2 t ht.1 ht.2).1.2.1
    have b := by_rng h ht
    have jp : J (put f t 2 (f (79 + 8 * t + 2) + by' f t - 100)) T D B ∨ f (79 + 8 * t + 2) + by' f t < 100 := by
      by_cases q : f (79 + 8 * t + 2) + by' f t < 100
      · exact Or.inr q
      · exact Or.inl (J_put h ht (by omega) (by omega) (by omega) (by omega) (by omega) (by omega) (by omega) (by omega))
    unfold goes
    by_cases q : f (79 + 8 * t + 2) + by' f t < 100
    · rw [if_pos q, put_n (by omega)]
    · rw [if_neg q, put_put]
      have j := jp.resolve_right q
      have e : put f t 2 (f (79 + 8 * t + 2) + by' f t - 100) i = f i := put_n (by omega)
      rw [← e]
      generalize put f t 2 (f (79 + 8 * t + 2) + by' f t - 100) = g at j ⊢
      have le := squareOn_le g (g (79 + 8 * t + 0)) (after g (g (79 + 8 * t + 0))) (g (79 + 8 * t + 1)) (drag g t)
      unfold moves
      split
      · exact lies_hi ht hi
      · split
        · rw [comes_hi (came_J j ht (by omega)).1 ht hi, came_hi ht hi]
        · split
          · rw [lies_hi ht hi, came_hi ht hi]
          · rw [came_hi ht hi]
theorem Lp_step {f : Int → Int} {t : Int} (h : Lp f) (hJ : Jx f) (ht : 0 ≤ t ∧ t < 4) : Lp (step f t) := by
  have n := hJ.f.2.1
  have n10 := n.2.2.2.2.2.2.2
  have w : ∀ (g : Int → Int) (i : Int), i = 10 ∨ 111 ≤ i → warms g t i = g i := fun g i hi => by unfold warms; rw [put_n (by omega)]
  unfold step
  split
  · refine Lp_off (Lp_waits h n10 n.1 ht) ?_ (fun i hi => w _ i hi)
    have j := (hJ.wait ht).f.2.1.2.2.2.2.2.2.2
    exact j
  · split
    · have k : Lp (goes f t) := Lp_off h n10 (fun i hi => goes_lg hJ ht hi)
      refine Lp_off k ?_ (fun i hi => w _ i hi)
      rw [goes_lg hJ ht (Or.inl rfl)]; exact n10
    · exact Lp_off h n10 (fun i hi => w _ i hi)
theorem Lp_steps {f : Int → Int} (h : Lp f) (hI : InvX f) (n : Nat) (hn : n ≤ 4) : Lp (steps f n) := by
  induction n with
  | zero => exact h
  | succ n ih => exact Lp_step (ih (by omega)) (steps_Jx hI n (by omega)).1 (by omega)
theorem Lp_tick {f : Int → Int} (h : Lp f) (hI : InvX f) : Lp (tick f) := by
  have w2 := hI.J.f.1.2.2.1
  have j := (steps_Jx hI (f 2).toNat (by omega)).1.f.2.1.2.2.2.2.2.2.2
  exact Lp_off (Lp_steps h hI (f 2).toNat (by omega)) j (fun i hi => zu_n (by omega))
theorem Lp_ticks {f : Int → Int} (h : Lp f) (hI : Inv 102000 f) (n : Nat) (hn : n ≤ 2000) : Lp (ticks f n) := by
  induction n with
  | zero => exact h
  | succ n ih => exact Lp_tick (ih (by omega)) (ticks_InvX hI n (by omega))
/-- what each call leaves is well -/
theorem ok_add {f : Int → Int} {b : Int} (h : Ok f) (hb : 0 ≤ b ∧ b < f 1) (h4 : f 2 < 4) (hf : isFree f b = true) : Ok (addT f b) := by
  have k := add_keep h.1 h.2.1 hb h4 hf
  have w2 := (Inv_Jy h.1).f.1.2.2.1
  exact ⟨k.1, k.2, Lp_off h.2.2 (Ok_ten h) (fun i hi => addT_out (by omega) (by omega))⟩
theorem ok_take {f : Int → Int} (h : Ok f) (h2 : f 2 ≠ 0) : Ok (zu f 2 (f 2 - 1)) := by
  have k := take_keep h.1 h.2.1 h2
  exact ⟨k.1, k.2, Lp_off h.2.2 (Ok_ten h) (fun i hi => zu_n (by omega))⟩
theorem ok_res {f : Int → Int} {t : Int} (h : Ok f) (ht : 0 ≤ t ∧ t < f 2) : Ok (resT f t) := by
  have k := res_keep h.1 h.2.1 ht
  have w2 := (Inv_Jy h.1).f.1.2.2.1
  exact ⟨k.1, k.2, Lp_off h.2.2 (Ok_ten h) (fun i hi => by unfold resT; rw [stands_out (by omega), put_n (by omega)])⟩
theorem ok_set {f : Int → Int} {w v : Int} (h : Ok f) (hw : 0 ≤ w ∧ w ≤ 3) (hv : canBe w v = true) : Ok (zu f (4 + w) v) := by
  have k := set_keep h.1 h.2.1 hw hv
  exact ⟨k.1, k.2, Lp_off h.2.2 (Ok_ten h) (fun i hi => zu_n (by omega))⟩
theorem ok_hgt {f : Int → Int} {c z : Int} (h : Ok f) (hc : 0 ≤ c ∧ c < f 0) (hz : 0 ≤ z ∧ z ≤ 9) : Ok (zu f (11 + c) z) := by
  have k := hgt_keep h.1 h.2.1 hc hz
  have w0 := (Inv_Jy h.1).f.1.1
  exact ⟨k.1, k.2, Lp_off h.2.2 (Ok_ten h) (fun i hi => zu_n (by omega))⟩
theorem ok_pass {f : Int → Int} {n : Int} (h : Ok f) (hn : 1 ≤ n ∧ n ≤ 500) (h3 : f 3 + n ≤ 100000) : Ok (ticks f n.toNat) := by
  have h9 : Inv (f 3) f := ⟨Int.le_refl _, h.1.2⟩
  have a := (ticks_inv h9 n.toNat (by omega)).1
  exact ⟨Inv_le a (by omega), ticks_keep h9 h.2.1 n.toNat (by omega), Lp_ticks h.2.2 (Inv_le h.1 (by omega)) n.toNat (by omega)⟩
theorem ok_parse {f x : Int → Int} {n : Nat} (h : Ok f) (hn : n ≤ 30) (hf : fst' x (2 * n) = -1) (h4 : 4 ≤ n) (h2 : 2 ≤ brs x (2 * n)) : Ok (parsed f x n) := by
  have k := parsed_keep h.1 (by omega) hn hf h4 h2
  obtain ⟨p0, p1, p2, p3⟩ := parsed_at f x n hn
  refine ⟨k.1, k.2, fun i i0 i1 => ?_⟩
  have e : parsed f x n 10 = 0 := by rw [p3 10 (by omega) (by omega) (by omega), begun_at f (by omega) (by omega), if_neg (by omega), if_neg (by omega)]
  omega
theorem parsed_new {N : Int} {f x : Int → Int} {n : Nat} (hs : (0 ≤ f 4 ∧ f 4 ≤ 20) ∧ (1 ≤ f 5 ∧ f 5 ≤ 50) ∧ (0 ≤ f 6 ∧ f 6 ≤ 500) ∧ (0 ≤ f 7 ∧ f 7 ≤ 40)) (h0 : 0 ≤ N) (hn : n ≤ 30) (hf : fst' x (2 * n) = -1) (h4 : 4 ≤ n) (h2 : 2 ≤ brs x (2 * n)) : Inv N (parsed f x n) ∧ Kp (parsed f x n) := by
  have hW := parsed_hi f x hn hf h4 h2
  obtain ⟨p0, p1, p2, p3⟩ := parsed_at f x n hn
  obtain ⟨n4, n5, n6, n7⟩ := hs
  have q : ∀ i : Int, 2 ≤ i → i < 171 → (i < 4 ∨ i = 8 ∨ i = 10 ∨ 71 ≤ i) → parsed f x n i = 0 := fun i i0 i1 hi => by
    rw [p3 i i0 i1 (by omega), begun_at f (by omega) (by omega), if_neg (by omega), if_neg (by omega)]
  have q4 : ∀ i : Int, 4 ≤ i → i ≤ 7 → parsed f x n i = f i := fun i i0 i1 => by
    rw [p3 i (by omega) (by omega) (by omega), begun_at f (by omega) (by omega), if_neg (by omega), if_pos ⟨i0, i1⟩]
  have q9 : parsed f x n 9 = -1 := by rw [p3 9 (by omega) (by omega) (by omega), begun_at f (by omega) (by omega), if_pos rfl]
  have q2 := q 2 (by omega) (by omega) (by omega)
  have q3 := q 3 (by omega) (by omega) (by omega)
  have q8 := q 8 (by omega) (by omega) (by omega)
  have q10 := q 10 (by omega) (by omega) (by omega)
  refine ⟨⟨by rw [q3]; exact h0, hW, ?_, fun t t0 t1 => ⟨?_, by show parsed f x n 3 ≤ 120000; omega⟩⟩, ⟨fun t u t0 t1 => by omega, fun t u t0 t1 => by omega⟩, ⟨by rw [q10, q8]; rfl, fun _ => q9, fun z => by omega⟩, fun t t0 t1 => by omega⟩
  · unfold Sn
    rw [q4 4 (by omega) (by omega), q4 5 (by omega) (by omega), q4 6 (by omega) (by omega), q4 7 (by omega) (by omega), q3, q8, q9, q10]
    omega
  · have z : ∀ k : Int, 0 ≤ k → k < 8 → parsed f x n (79 + 8 * t + k) = 0 := fun k k0 k1 => q _ (by omega) (by omega) (by omega)
    unfold Tn
    rw [z 1 (by omega) (by omega), z 2 (by omega) (by omega), z 3 (by omega) (by omega), z 5 (by omega) (by omega), z 7 (by omega) (by omega)]
    show (0 ≤ (0 : Int) ∧ (0 : Int) ≤ 9999) ∧ (0 ≤ (0 : Int) ∧ (0 : Int) ≤ 99) ∧ (0 ≤ (0 : Int) ∧ (0 : Int) ≤ 100) ∧ (0 ≤ (0 : Int) ∧ 0 ≤ parsed f x n 3) ∧ (0 ≤ (0 : Int) ∧ 0 ≤ parsed f x n 3)
    omega
theorem ok_new : Ok f1 := by
  have k := parsed_new (N := 100000) (f := fS) (x := fB) (n := 14) (by decide) (by decide) (by decide) fB_fst (by decide) (by rw [fB_brs]; decide)
  obtain ⟨p0, p1, p2, p3⟩ := parsed_at fS fB 14 (by decide)
  refine ⟨k.1, k.2, fun i i0 i1 => ?_⟩
  have e : f1 10 = 0 := by
    show parsed fS fB 14 10 = 0
    rw [p3 10 (by omega) (by omega) (by omega), begun_at fS (by omega) (by omega), if_neg (by omega), if_neg (by omega)]
  omega
theorem tie_new {S : Nat → Nat → Int → Int} (h : Rel f1 (S 0)) : Tie new0 S := ⟨⟨h, ok_new⟩, by show (0 : Int) ≤ 0 ∧ (0 : Int) ≤ 4; omega, fun k hk => absurd (show (k : Int) < 0 from hk) (by omega), by show (0 : Int) ≤ 0 ∧ (0 : Int) ≤ 90; omega, fun k _ _ => by show (0 : Int) ≤ 0 ∧ (0 : Int) ≤ 127; omega⟩
