/-! What ties the class to the reference between two calls -/
def slot (sv : Int → Int) (k : Nat) : Int → Int := fun i => sv (171 * (k : Int) + i)
/-- the rides from place c on of S show the saved states of sv -/
def TS (sv : Int → Int) (sm : Int) (S : Nat → Nat → Int → Int) : Prop := ∀ k : Nat, (k : Int) < sm → Rel (slot sv k) (S (2 + k)) ∧ Inv 100000 (slot sv k) ∧ Kp (slot sv k)
def Tie (f sv x : Int → Int) (sm ln : Int) (S : Nat → Nat → Int → Int) : Prop := (Rel f (S 0) ∧ Inv 100000 f ∧ Kp f) ∧ (0 ≤ sm ∧ sm ≤ 4) ∧ TS sv sm S ∧ (0 ≤ ln ∧ ln ≤ 90) ∧ ∀ k : Int, 0 ≤ k → k < 90 → 0 ≤ x k ∧ x k ≤ 127
theorem shS_at (g : Int → Int) : ∀ (n : Nat) (i : Int), 0 ≤ i → shS g n i = if i < (n : Int) then g (i + 171) else g i := by
  intro n
  induction n with
  | zero => intro i h0; simp only [shS]; rw [if_neg (by omega)]
  | succ n ih =>
    intro i h0
    simp only [shS]
    by_cases e : i = (n : Int)
    · rw [e, zu_s, if_pos (by omega), ih _ (by omega), if_neg (by omega)]
    · rw [zu_n e, ih i h0]
      by_cases z : i < (n : Int)
      · rw [if_pos z, if_pos (by omega)]
      · rw [if_neg z, if_neg (by omega)]
theorem cpS_at (g f : Int → Int) (o : Int) : ∀ (n : Nat) (i : Int), cpS g f o n i = if o ≤ i ∧ i < o + (n : Int) then f (i - o) else g i := by
  intro n
  induction n with
  | zero => intro i; simp only [cpS]; rw [if_neg (by omega)]
  | succ n ih =>
    intro i
    simp only [cpS]
    by_cases e : i = o + (n : Int)
    · rw [e, zu_s, if_pos (by omega)]; congr 1; omega
    · rw [zu_n e, ih i]
      by_cases z : o ≤ i ∧ i < o + (n : Int)
      · rw [if_pos z, if_pos (by omega)]
      · rw [if_neg z, if_neg (by omega)]
theorem cpO_at (f sv : Int → Int) (o : Int) : ∀ (n : Nat) (i : Int), 0 ≤ i → cpO f sv o n i = if i < (n : Int) then sv (o + i) else f i := by
  intro n
  induction n with
  | zero => intro i h0; simp only [cpO]; rw [if_neg (by omega)]
  | succ n ih =>
    intro i h0
    simp only [cpO]
    by_cases e : i = (n : Int)
    · rw [e, zu_s, if_pos (by omega)]
    · rw [zu_n e, ih i h0]
      by_cases z : i < (n : Int)
      · rw [if_pos z, if_pos (by omega)]
      · rw [if_neg z, if_neg (by omega)]
/-- a row that shows the same on its 171 places -/
theorem row_ext {f g : Int → Int} {R : Nat → Int → Int} (h : Rel f R ∧ Inv 100000 f ∧ Kp f) (e : ∀ i : Int, 0 ≤ i → i < 171 → g i = f i) : Rel g R ∧ Inv 100000 g ∧ Kp g := by
  obtain ⟨hW, hN, -⟩ := (Inv_Jy h.2.1).f
  exact ⟨rel_ext h.1 hW hN e, Inv_ext h.2.1 e, Kp_ext h.2.2 (Inv_Jy h.2.1) e⟩
/-- a call that saves, and leaves the row g -/
theorem tie_save {f g sv x : Int → Int} {sm ln : Int} {S S' : Nat → Nat → Int → Int} (h : Tie f sv x sm ln S) (hg : Rel g (S' 0)) (ig : Inv 100000 g ∧ Kp g) (hf : Rel f (S' (2 + (if sm = 4 then 3 else sm.toNat)))) (hs : ∀ j : Nat, j < (if sm = 4 then 3 else sm.toNat) → S' (2 + j) = S (2 + j + (if sm = 4 then 1 else 0))) : Tie g (svS sv f sm) x (smS sm) ln S' := by
  obtain ⟨⟨hR, hI, hk⟩, hsm, hTS, hl, hx⟩ := h
  refine ⟨⟨hg, ig⟩, by unfold smS; split <;> omega, fun k hk2 => ?_, hl, hx⟩
  unfold smS at hk2
  by_cases h4 : sm = 4
  · rw [if_pos h4] at hf hk2
    rw [if_pos h4, if_pos h4] at hs
    have sat : ∀ i : Int, 0 ≤ i → svS sv f sm i = if 513 ≤ i ∧ i < 684 then f (i - 513) else (if i < 513 then sv (i + 171) else sv i) := fun i h0 => by
      unfold svS
      rw [if_pos h4, if_pos h4, cpS_at, shS_at _ _ _ h0]
      rfl
    by_cases k3 : k = 3
    · subst k3
      refine row_ext ⟨hf, hI, hk⟩ (fun i h0 h1 => ?_)
      show svS sv f sm _ = _
      rw [sat _ (by omega), if_pos (by omega)]
      congr 1; omega
    · have := hTS (k + 1) (by omega)
      rw [hs k (by omega)]
      refine row_ext (f := slot sv (k + 1)) this (fun i h0 h1 => ?_)
      show svS sv f sm _ = sv _
      rw [sat _ (by omega), if_neg (by omega), if_pos (by omega)]
      congr 1; omega
  · rw [if_neg h4] at hf hk2
    rw [if_neg h4, if_neg h4] at hs
    have sat : ∀ i : Int, svS sv f sm i = if 171 * sm ≤ i ∧ i < 171 * sm + 171 then f (i - 171 * sm) else sv i := fun i => by
      unfold svS
      rw [if_neg h4, if_neg h4, cpS_at]
      rfl
    by_cases k3 : (k : Int) = sm
    · have e : sm.toNat = k := by omega
      rw [e] at hf
      refine row_ext ⟨hf, hI, hk⟩ (fun i h0 h1 => ?_)
      show svS sv f sm _ = _
      rw [sat _, if_pos (by omega)]
      congr 1; omega
    · have := hTS k (by omega)
      have e2 := hs k (by omega)
      rw [Nat.add_zero] at e2
      rw [e2]
      refine row_ext (f := slot sv k) this (fun i h0 h1 => ?_)
      show svS sv f sm _ = sv _
      rw [sat _, if_neg (by omega)]
/-- a call that changes the trial ride alone -/
theorem tie_trial {f sv x : Int → Int} {sm ln : Int} {S S' : Nat → Nat → Int → Int} (h : Tie f sv x sm ln S) (hs : ∀ j : Nat, j ≠ 1 → S' j = S j) : Tie f sv x sm ln S' := by
  obtain ⟨⟨hR, hI, hk⟩, hsm, hTS, hl, hx⟩ := h
  exact ⟨⟨by rw [hs 0 (by omega)]; exact hR, hI, hk⟩, hsm, fun k hk2 => by rw [hs _ (by omega)]; exact hTS k hk2, hl, hx⟩
theorem tie_undo {f sv x : Int → Int} {sm ln : Int} {S S' : Nat → Nat → Int → Int} (h : Tie f sv x sm ln S) (h1 : 1 ≤ sm) (h0 : Rel (slot sv (sm - 1).toNat) (S' 0)) (hs : ∀ j : Nat, j ≠ 0 → S' j = S j) : Tie (cpO f sv (171 * (sm - 1)) 171) sv x (sm - 1) ln S' := by
  obtain ⟨⟨hR, hI, hk⟩, hsm, hTS, hl, hx⟩ := h
  obtain ⟨a, b, c⟩ := hTS (sm - 1).toNat (by omega)
  refine ⟨row_ext ⟨h0, b, c⟩ (fun i i0 i1 => ?_), by omega, fun k hk2 => by rw [hs _ (by omega)]; exact hTS k (by omega), hl, hx⟩
  rw [cpO_at _ _ _ _ _ i0, if_pos (by omega)]
  show _ = sv _
  congr 1; omega
theorem tie_text {f sv x x' : Int → Int} {sm ln ln' : Int} {S : Nat → Nat → Int → Int} (h : Tie f sv x sm ln S) (hl : 0 ≤ ln' ∧ ln' ≤ 90) (hx : ∀ k : Int, 0 ≤ k → k < 90 → 0 ≤ x' k ∧ x' k ≤ 127) : Tie f sv x' sm ln' S := ⟨h.1, h.2.1, h.2.2.1, hl, hx⟩
theorem pass_keep {f : Int → Int} {n : Int} (h : Inv 100000 f) (k : Kp f) (hn : 1 ≤ n ∧ n ≤ 500) (h3 : f 3 + n ≤ 100000) : Inv 100000 (ticks f n.toNat) ∧ Kp (ticks f n.toNat) := by
  have h9 : Inv (f 3) f := ⟨Int.le_refl _, h.2⟩
  have a := (ticks_inv h9 n.toNat (by omega)).1
  exact ⟨Inv_le a (by omega), ticks_keep h9 k n.toNat (by omega)⟩
theorem parsed_new {N : Int} {f x : Int → Int} {n : Nat} (hs : (0 ≤ f 4 ∧ f 4 ≤ 20) ∧ (1 ≤ f 5 ∧ f 5 ≤ 50) ∧ (0 ≤ f 6 ∧ f 6 ≤ 500) ∧ (0 ≤ f 7 ∧ f 7 ≤ 40)) (h0 : 0 ≤ N) (hn : n ≤ 30) (hf : fst' x (2 * n) = -1) (h4 : 4 ≤ n) (h2 : 2 ≤ brs x (2 * n)) : Inv N (parsed f x n) ∧ Kp (parsed f x n) := by
  have hW := parsed_hi f x hn hf h4 h2
  obtain ⟨p0, p1, p2, p3⟩ := parsed_at f x n hn
  obtain ⟨n4, n5, n6, n7⟩ := hs
  have q : ∀ i : Int, 2 ≤ i → i < 171 → (i < 4 ∨ i = 8 ∨ i = 10 ∨ 71 ≤ i) → parsed f x n i = 0 := fun i i0 i1 hi => by
    rw [p3 i i0 i1 (by omega), begun_at f (by omega) (by omega), if_neg (by omega), if_neg (by omega)]
  have q4 : ∀ i : Int, 4 ≤ i → i ≤ 7 → parsed f x n i = f i := fun i i0 i1 => by
    rw [p3 i (by omega) (by omega) (by omega), begun_at f (by omega) (by omega), if_neg (by omega), if_pos ⟨i0, i1⟩]
  have q9 : parsed f x n 9 = -1 := by rw [p3 9 (by omega) (by omega) (by omega), begun_at f (by omega) (by omega), if_pos rfl]
  have q2 := q 2 (by omega) (by omega) (by omega)
  have q3 := q 3 (by omega) (by omega) (by omega)
  have q8 := q 8 (by omega) (by omega) (by omega)
  have q10 := q 10 (by omega) (by omega) (by omega)
  refine ⟨⟨by rw [q3]; exact h0, hW, ?_, fun t t0 t1 => ⟨?_, by show parsed f x n 3 ≤ 120000; omega⟩⟩, ⟨fun t u t0 t1 => by omega, fun t u t0 t1 => by omega⟩, ⟨by rw [q10, q8]; rfl, fun _ => q9, fun z => by omega⟩, fun t t0 t1 => by omega⟩
  · unfold Sn
    rw [q4 4 (by omega) (by omega), q4 5 (by omega) (by omega), q4 6 (by omega) (by omega), q4 7 (by omega) (by omega), q3, q8, q9, q10]
    omega
  · have z : ∀ k : Int, 0 ≤ k → k < 8 → parsed f x n (79 + 8 * t + k) = 0 := fun k k0 k1 => q _ (by omega) (by omega) (by omega)
    unfold Tn
    rw [z 1 (by omega) (by omega), z 2 (by omega) (by omega), z 3 (by omega) (by omega), z 5 (by omega) (by omega), z 7 (by omega) (by omega)]
    show (0 ≤ (0 : Int) ∧ (0 : Int) ≤ 9999) ∧ (0 ≤ (0 : Int) ∧ (0 : Int) ≤ 99) ∧ (0 ≤ (0 : Int) ∧ (0 : Int) ≤ 100) ∧ (0 ≤ (0 : Int) ∧ 0 ≤ parsed f x n 3) ∧ (0 ≤ (0 : Int) ∧ 0 ≤ parsed f x n 3)
    omega
theorem tie_new {S : Nat → Nat → Int → Int} (h : Rel f1 (S 0)) : Tie f1 (fun _ => 0) (fun _ => 0) 0 0 S := by
  have k := parsed_new (N := 100000) (f := fS) (x := fB) (n := 14) (by decide) (by decide) (by decide) fB_fst (by decide) (by rw [fB_brs]; decide)
  exact ⟨⟨h, k.1, k.2⟩, by omega, fun k hk => absurd hk (by omega), by omega, fun k _ _ => by show (0 : Int) ≤ 0 ∧ (0 : Int) ≤ 127; omega⟩
