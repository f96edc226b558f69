/-! What the law itself stands on: masks, the ways of a call, the row of hashes, the empty ride -/
theorem mask_nn (u : Int32) : 0 ≤ (u &&& iZ 2147483647).toInt := by
  have h : (u &&& iZ 2147483647).toBitVec.toNat ≤ 2147483647 := by
    rw [Int32.toBitVec_and, BitVec.toNat_and]
    have e : (iZ 2147483647).toBitVec.toNat = 2147483647 := by decide +kernel
    rw [e]
    exact Nat.and_le_right
  show 0 ≤ (u &&& iZ 2147483647).toBitVec.toInt
  rw [BitVec.toInt_eq_toNat_of_lt (by omega)]
  omega
def Alt (st st' : CSt) (v : Int) : Prop := (-2147483648 ≤ v ∧ v ≤ 2147483647) ∧ ((0 ≤ v ∧ ∃ g : Int → Int, st' = savd st g) ∨ (v < 0 ∧ st' = st))
theorem alt_of {st : CSt} {th v e1 e2 : Int} {g : Int → Int} (h : th = 0 → 0 ≤ v ∧ v ≤ 2147483647) (h1 : -2147483648 ≤ e1 ∧ e1 < 0) (h2 : -2147483648 ≤ e2 ∧ e2 < 0) : Alt st (s3 th st (savd st g)) (v3 th v e1 e2) := by
  unfold s3 v3
  by_cases q : th = 0
  · rw [if_pos q, if_pos q]
    have k := h q
    exact ⟨by omega, Or.inl ⟨k.1, g, rfl⟩⟩
  · rw [if_neg q, if_neg q]
    refine ⟨by split <;> omega, Or.inr ⟨by split <;> omega, rfl⟩⟩
theorem add_alt {st : CSt} {b : Int} (h : Ok st.1) : Alt st (addS st b) (addV st b) := alt_of (fun _ => by
  have w2 := (Inv_Jy h.1).f.1.2.2.1
  omega) (by decide) (by decide)
theorem tak_alt {st : CSt} (h : Ok st.1) : Alt st (takS st) (takV st) := alt_of (fun q => by
  have w2 := (Inv_Jy h.1).f.1.2.2.1
  rcases thTake_c st.1 with ⟨_, h1⟩ | ⟨e, _⟩ <;> omega) (by decide) (by decide)
theorem res_alt {st : CSt} {t : Int} (h : Ok st.1) : Alt st (resS st t) (resV st t) := alt_of (fun q => by
  have hW := (Inv_Jy h.1).f.1
  have w0 := hW.1; have w2 := hW.2.2.1
  rcases thRes_c st.1 t with ⟨_, h1, _⟩ | ⟨e, _⟩ | ⟨e, _⟩
  · have k := (hW.2.2.2.2.2.2 t h1.1 (by omega)).1
    omega
  · omega
  · omega) (by decide) (by decide)
theorem hgt_alt {st : CSt} {c z : Int} (h : Ok st.1) : Alt st (hgtS st c z) (hgtV st c z) := alt_of (fun q => by
  have hW := (Inv_Jy h.1).f.1
  have w0 := hW.1
  rcases thHgt_c st.1 c z with ⟨_, h1, _⟩ | ⟨e, _⟩ | ⟨e, _⟩
  · have k := hW.2.2.2.2.2.1 c h1.1 (by omega)
    omega
  · omega
  · omega) (by decide) (by decide)
theorem set_alt {st : CSt} {w v : Int} (h : Ok st.1) : Alt st (setS st w v) (setV st w v) := alt_of (fun q => by
  obtain ⟨-, n4, n5, n6, n7, -⟩ := (Inv_Jy h.1).f.2.1
  have k := (thSet_0 q).1
  rcases (show w = 0 ∨ w = 1 ∨ w = 2 ∨ w = 3 by omega) with rfl | rfl | rfl | rfl
  · show 0 ≤ st.1 4 ∧ st.1 4 ≤ 2147483647; omega
  · show 0 ≤ st.1 5 ∧ st.1 5 ≤ 2147483647; omega
  · show 0 ≤ st.1 6 ∧ st.1 6 ≤ 2147483647; omega
  · show 0 ≤ st.1 7 ∧ st.1 7 ≤ 2147483647; omega) (by decide) (by decide)
theorem step_8 {f : Int → Int} {t : Int} (hJ : Jx f) (ht : 0 ≤ t ∧ t < 4) : f 8 ≤ step f t 8 := by
  have p : ∀ (g : Int → Int) (w v : Int), 0 ≤ w → w < 8 → put g t w v 8 = g 8 := fun g w v a b => put_n (by omega)
  unfold step warms
  rw [p _ _ _ (by omega) (by omega)]
  split
  · unfold waits
    split
    · unfold runs
      rw [p _ _ _ (by omega) (by omega), p _ _ _ (by omega) (by omega), p _ _ _ (by omega) (by omega), p _ _ _ (by omega) (by omega)]
      split
      · unfold dispatches
        rw [logd_8, room30_out (by omega) (by omega), p _ _ _ (by omega) (by omega)]
        omega
      · rw [p _ _ _ (by omega) (by omega)]
        exact Int.le_refl _
    · rw [p _ _ _ (by omega) (by omega)]
      exact Int.le_refl _
  · split
    · obtain ⟨T, D, B, h, -, -⟩ := hJ
      rw [goes_2 h ht (by omega)]
      exact Int.le_refl _
    · exact Int.le_refl _
theorem tick_8 {f : Int → Int} (hX : InvX f) : f 8 ≤ tick f 8 := by
  have w2 := hX.J.f.1.2.2.1
  have k : ∀ n : Nat, (n : Int) ≤ f 2 → f 8 ≤ steps f n 8 := by
    intro n
    induction n with
    | zero => intro _; exact Int.le_refl _
    | succ n ih =>
      intro hn
      simp only [steps]
      exact Int.le_trans (ih (by omega)) (step_8 (steps_Jx hX n (by omega)).1 (by omega))
  unfold tick
  rw [zu_n (by omega)]
  exact k _ (by omega)
theorem ticks_8 {f : Int → Int} (hI : Inv 102000 f) (n : Nat) (hn : n ≤ 2000) : f 8 ≤ ticks f n 8 := by
  induction n with
  | zero => exact Int.le_refl _
  | succ n ih => exact Int.le_trans (ih (by omega)) (tick_8 (ticks_InvX hI n (by omega)))
theorem pas_alt {st : CSt} {n : Int} (h : Ok st.1) : Alt st (pasS st n) (pasV st n) := alt_of (fun q => by
  rcases thPass_c st.1 n with ⟨_, h1, h2⟩ | ⟨e, _⟩ | ⟨e, _⟩
  · have a := ticks_8 (Inv_le h.1 (by omega)) n.toNat (by omega)
    have b := (Inv_Jy (ticks_inv h.1 n.toNat (by omega)).1).f.2.1.2.2.2.2.2.1
    have c := (Inv_Jy h.1).f.2.1.2.2.2.2.2.1
    omega
  · omega
  · omega) (by decide) (by decide)
/-- the hashes of the saved rows, the latest at c - 1 -/
def Wg (g : Nat → Int64) (c : Nat) (st : CSt) : Prop := ∀ j : Nat, (j : Int) < st.2.2.1 → j < c ∧ g (c - 1 - j) = lZ (fromH (st.2.1 (st.2.2.1 - 1 - (j : Int)).toNat) 5)
theorem Wg_keep {g : Nat → Int64} {c : Nat} {st : CSt} (v : Int64) (h : Wg g c st) : Wg (vp_updL g c v) c st := fun j hj => by
  obtain ⟨a, b⟩ := h j hj
  refine ⟨a, ?_⟩
  unfold vp_updL
  rw [if_neg (by omega)]
  exact b
theorem Wg_save {g : Nat → Int64} {c : Nat} {st : CSt} (q : Int → Int) (h : Wg g c st) (hs : 0 ≤ st.2.2.1 ∧ st.2.2.1 ≤ 4) : Wg (vp_updL g c (lZ (fromH st.1 5))) (c + 1) (savd st q) := by
  obtain ⟨f, sv, sm, tx⟩ := st
  simp only at hs
  intro j hj
  replace hj : (j : Int) < smS sm := hj
  show j < c + 1 ∧ vp_updL g c (lZ (fromH f 5)) (c + 1 - 1 - j) = lZ (fromH (svN sv f sm (smS sm - 1 - (j : Int)).toNat) 5)
  have h' : ∀ j : Nat, (j : Int) < sm → j < c ∧ g (c - 1 - j) = lZ (fromH (sv (sm - 1 - (j : Int)).toNat) 5) := h
  unfold smS at hj ⊢
  unfold vp_updL svN
  by_cases j0 : j = 0
  · subst j0
    refine ⟨by omega, ?_⟩
    rw [if_pos (by omega)]
    by_cases h4 : sm = 4
    · rw [if_pos h4, if_pos h4, if_pos (by omega)]
    · rw [if_neg h4, if_neg h4, if_pos (by omega)]
  · by_cases h4 : sm = 4
    · rw [if_pos h4] at hj
      obtain ⟨a, b⟩ := h' (j - 1) (by omega)
      refine ⟨by omega, ?_⟩
      rw [if_neg (by omega), if_pos h4, if_pos h4, if_neg (by omega), show c + 1 - 1 - j = c - 1 - (j - 1) by omega, b]
      congr 2
      congr 1
      omega
    · rw [if_neg h4] at hj
      obtain ⟨a, b⟩ := h' (j - 1) (by omega)
      refine ⟨by omega, ?_⟩
      rw [if_neg (by omega), if_neg h4, if_neg h4, if_neg (by omega), show c + 1 - 1 - j = c - 1 - (j - 1) by omega, b]
      congr 2
      congr 1
      omega
theorem Wg_undo {g : Nat → Int64} {c : Nat} {st : CSt} (h : Wg g (c + 1) st) : Wg g c (undn st) := by
  obtain ⟨f, sv, sm, tx⟩ := st
  intro j hj
  replace hj : (j : Int) < sm - 1 := hj
  obtain ⟨a, b⟩ := h (j + 1) (by show ((j + 1 : Nat) : Int) < sm; omega)
  refine ⟨by omega, ?_⟩
  show g (c - 1 - j) = lZ (fromH (sv (sm - 1 - 1 - (j : Int)).toNat) 5)
  rw [show c - 1 - j = c + 1 - 1 - (j + 1) by omega, b]
  show lZ (fromH (sv (sm - 1 - ((j + 1 : Nat) : Int)).toNat) 5) = _
  congr 2
  congr 1
  omega
theorem Wg_top {g : Nat → Int64} {c : Nat} {st : CSt} (h : Wg g c st) (h1 : 1 ≤ st.2.2.1) : 1 ≤ c ∧ g (c - 1) = lZ (fromH (undn st).1 5) := by
  obtain ⟨a, b⟩ := h 0 (by omega)
  refine ⟨by omega, ?_⟩
  rw [show c - 1 - 0 = c - 1 from rfl] at b
  rw [b, show st.2.2.1 - 1 - ((0 : Nat) : Int) = st.2.2.1 - 1 by omega]
  rfl
/-- how many are saved behind c changes -/
def c4 (c : Nat) : Int := if c < 4 then (c : Int) else 4
theorem c4_save {c : Nat} {st : CSt} (q : Int → Int) (h : st.2.2.1 = c4 c) : (savd st q).2.2.1 = c4 (c + 1) := by
  show smS st.2.2.1 = _
  rw [h]
  unfold smS c4
  split <;> split <;> (try split) <;> omega
/-! the empty ride -/
theorem tick_0 {f : Int → Int} (h : f 2 = 0) : tick f = zu f 3 (f 3 + 1) := by
  unfold tick
  rw [h]
  rfl
theorem ticks_0 {f : Int → Int} (h : f 2 = 0) (n : Nat) : ticks f n = zu f 3 (f 3 + (n : Int)) := by
  induction n with
  | zero => exact (zu_id (by show f 3 = f 3 + ((0 : Nat) : Int); omega)).symm
  | succ n ih =>
    show tick (ticks f n) = _
    rw [ih, tick_0 (by rw [zu_n (by omega)]; exact h), zu_s, zu_zu]
    congr 1
    omega
def Em (T : Int) (f : Int → Int) : Prop := ∀ i : Int, 0 ≤ i → i < 171 → f i = zu K0.1 3 T i
theorem K0_2 : K0.1 2 = 0 := by decide +kernel
theorem Em_3 {T : Int} {f : Int → Int} (h : Em T f) : f 3 = T ∧ f 2 = 0 ∧ f 8 = 0 := by
  refine ⟨?_, ?_, ?_⟩
  · rw [h 3 (by omega) (by omega), zu_s]
  · rw [h 2 (by omega) (by omega), zu_n (by omega)]; exact K0_2
  · rw [h 8 (by omega) (by omega), zu_n (by omega)]; decide +kernel
theorem Em_go {T : Int} {f : Int → Int} (h : Em T f) (n : Nat) : Em (T + n) (ticks f n) := fun i i0 i1 => by
  obtain ⟨a, b, -⟩ := Em_3 h
  rw [ticks_0 b, a]
  by_cases q : i = 3
  · rw [q, zu_s, zu_s]
  · rw [zu_n q, zu_n q, h i i0 i1, zu_n q]
def Pe (i : Nat) (st : CSt) : Prop := Em (500 * (i : Int)) st.1 ∧ st.2.2.1 = c4 i ∧ (0 < i → Em (500 * ((i : Int) - 1)) (st.2.1 (st.2.2.1 - 1).toNat))
theorem Pe_0 : Pe 0 K0 := ⟨fun i i0 i1 => by
    rw [show (500 * ((0 : Nat) : Int)) = 0 from rfl, zu_id (by decide +kernel)], by decide +kernel, fun h => absurd h (by decide)⟩
theorem emp_pas {T : Int} {st : CSt} (h : Em T st.1) (n : Nat) (hn : 1 ≤ n ∧ n ≤ 500) (hT : T + n ≤ 100000) : pasV st (n : Int) = 0 ∧ pasS st (n : Int) = savd st (ticks st.1 n) := by
  obtain ⟨a, b, c⟩ := Em_3 h
  have e0 : thPass st.1 (n : Int) = 0 := by unfold thPass; rw [if_pos (by omega), if_neg (by omega)]
  refine ⟨?_, by unfold pasS; rw [s3_0 e0, Int.toNat_natCast]⟩
  unfold pasV
  rw [v3_0 e0, Int.toNat_natCast, (Em_3 (Em_go h n)).2.2, c]
  rfl
theorem sv_top (st : CSt) (g : Int → Int) (h : 0 ≤ st.2.2.1 ∧ st.2.2.1 ≤ 4) : (savd st g).2.1 ((savd st g).2.2.1 - 1).toNat = st.1 := by
  obtain ⟨f, sv, sm, tx⟩ := st
  simp only at h
  show svN sv f sm (smS sm - 1).toNat = f
  unfold svN smS
  by_cases h4 : sm = 4
  · rw [if_pos h4, if_pos h4, if_pos (by omega)]
  · rw [if_neg h4, if_neg h4, if_pos (by omega)]
theorem Pe_step {i : Nat} {st : CSt} (hi : i < 200) (h : Pe i st) (hs : 0 ≤ st.2.2.1 ∧ st.2.2.1 ≤ 4) : pasV st 500 = 0 ∧ Pe (i + 1) (pasS st 500) := by
  obtain ⟨a, b, -⟩ := h
  obtain ⟨q1, q2⟩ := emp_pas a 500 (by decide) (by omega)
  refine ⟨q1, ?_⟩
  rw [show pasS st 500 = savd st (ticks st.1 500) from q2]
  refine ⟨?_, c4_save _ b, fun _ => ?_⟩
  · have k := Em_go a 500
    rw [show 500 * (i : Int) + ((500 : Nat) : Int) = 500 * ((i + 1 : Nat) : Int) by omega] at k
    exact k
  · rw [sv_top st _ hs, show 500 * (((i + 1 : Nat) : Int) - 1) = 500 * (i : Int) by omega]
    exact a
theorem Pe_end {st : CSt} (h : Pe 200 st) : (pasV st 1 = -3003 ∧ pasS st 1 = st) ∧ allV st 3 = 100000 ∧ (undV st = 3 ∧ undS st = undn st) ∧ pasV (undn st) 500 = 0 := by
  obtain ⟨a, b, c⟩ := h
  have e3 := (Em_3 a).1
  have b4 : st.2.2.1 = 4 := b
  have e0 : thPass st.1 1 = 2 := by unfold thPass; rw [if_pos (by decide), if_pos (by omega)]
  have u := und_n (st := st) (by omega)
  refine ⟨⟨v3_2 e0, s3_n (by omega)⟩, ?_, ⟨u.1.trans (by omega), u.2⟩, ?_⟩
  · rw [all_lo (by omega)]; exact e3
  · exact (emp_pas (st := undn st) (c (by decide)) 500 (by decide) (by decide)).1
