/-! The states of known(): rows in one number, sixteen bits a place -/
def rwN (N : Nat) : Int → Int := fun i => if 0 ≤ i ∧ i < 171 then (((N >>> (16 * i.toNat)) % 65536 : Nat) : Int) - 1 else 0
def nxt (N : Nat) (st : CSt) : CSt := (rwN N, st.2)
theorem wC_nxt {y : Nat → ClassId} {o : Nat → Nat} {a : Nat → Nat → Nat} {S : Nat → Nat → Int → Int} {tb : Nat → Nat} (N : Nat) (st : CSt) : wC y o a S tb (nxt N st) = wC y o a S tb st := rfl
theorem tie_nxt {N : Nat} {st : CSt} {S : Nat → Nat → Int → Int} (h : Tie st S) (e : ∀ n : Nat, n < 171 → rwN N (n : Int) = st.1 (n : Int)) : Tie (nxt N st) S := tie_row h (fun i i0 i1 => by
  have k := e i.toNat (by omega)
  rw [show ((i.toNat : Nat) : Int) = i by omega] at k
  exact k)
theorem pas_is {st : CSt} {n : Int} (h : thPass st.1 n = 0) : (pasS st n).1 = ticks st.1 n.toNat ∧ pasV st n = ticks st.1 n.toNat 8 - st.1 8 := by
  refine ⟨?_, v3_0 h⟩
  unfold pasS
  rw [s3_0 h]
  rfl
/-- a pass of one train: the row behind it, and its answer -/
theorem pas_1 {H fr dw gp ai : Nat} {st : CSt} {x y : X11} {n : Nat} {N : Nat} (hO : Ok st.1) (h : Vw H fr dw gp ai st.1 x) (hth : thPass st.1 (n : Int) = 0) (hn : n ≤ 500) (hy : runU H fr dw gp ai n x = y) (hD : y.2.2.1 < 30) (hD2 : y.2.2.1 ≤ x.2.2.1 + 1) (e : ∀ k : Nat, k < 171 → rwN N (k : Int) = rowP st.1 x y (k : Int)) : (∀ k : Nat, k < 171 → rwN N (k : Int) = (pasS st (n : Int)).1 (k : Int)) ∧ pasV st (n : Int) = (y.2.2.1 : Int) - (x.2.2.1 : Int) := by
  obtain ⟨q1, q2⟩ := pas_is hth
  rw [Int.toNat_natCast] at q1 q2
  have r := run_row h hO.1 n (by omega) hy hD hD2
  refine ⟨fun k hk => ?_, ?_⟩
  · rw [q1, r _ (by omega) (by omega)]; exact e k hk
  · rw [q2, r 8 (by omega) (by omega), h.2.2.2.1.2.1]; rfl
theorem lyn_0 (f : Int → Int) : lyn f 0 = 0 := rfl
theorem valley_0 {f : Int → Int} (h : f 2 = 0) (m : Nat) : toValley f (m : Int) = -1 := toValley_miss (fun j _ => by rw [h]; rfl)
theorem most_20 {f : Int → Int} (h : toValley (zu f 4 20) 500 = -1) : mostF f 21 = 20 := by
  have e : mostF f 1 = 20 := by
    show (if (-1 : Int) = -1 then (if toValley (zu f 4 (20 - ((0 : Nat) : Int))) 500 = -1 then 20 - ((0 : Nat) : Int) else -1) else -1) = 20
    rw [if_pos rfl, show (20 : Int) - ((0 : Nat) : Int) = 20 from rfl, if_pos h]
  rw [mostF_keep (n := 1) (m := 21) (by rw [e]; decide) (by decide), e]
theorem most_no {f : Int → Int} (h : ∀ n : Nat, n < 21 → toValley (zu f 4 (20 - (n : Int))) 500 ≠ -1) : mostF f 21 = -1 := by
  have k : ∀ n : Nat, n ≤ 21 → mostF f n = -1 := by
    intro n
    induction n with
    | zero => intro _; rfl
    | succ n ih =>
      intro hn
      simp only [mostF]
      rw [if_pos (ih (by omega)), if_neg (h n (by omega))]
  exact k 21 (by decide)
/-- what no tick touches -/
theorem step_far {f : Int → Int} {t i : Int} (hJ : Jx f) (ht : 0 ≤ t ∧ t < 4) (hi : i < 0 ∨ 171 ≤ i) : step f t i = f i := by
  have hW := hJ.f.1
  have w0 := hW.1; have w1 := hW.2.1
  have n10 := hJ.f.2.1.2.2.2.2.2.2.2
  have p : ∀ (g : Int → Int) (w v : Int), 0 ≤ w → w < 8 → put g t w v i = g i := fun g w v a b => put_n (by omega)
  have ru : ∀ g : Int → Int, runs g t i = g i := fun g => by
    unfold runs
    rw [p _ _ _ (by omega) (by omega), p _ _ _ (by omega) (by omega), p _ _ _ (by omega) (by omega), p _ _ _ (by omega) (by omega)]
  have stn : ∀ g : Int → Int, stands g t i = g i := fun g => by
    unfold stands
    rw [p _ _ _ (by omega) (by omega), p _ _ _ (by omega) (by omega), p _ _ _ (by omega) (by omega), p _ _ _ (by omega) (by omega)]
  have ly : ∀ g : Int → Int, lies g t i = g i := fun g => by
    unfold lies
    rw [p _ _ _ (by omega) (by omega), p _ _ _ (by omega) (by omega), p _ _ _ (by omega) (by omega)]
  have ca : ∀ (g : Int → Int) (s : Int), came g t s i = g i := fun g s => by
    unfold came
    rw [p _ _ _ (by omega) (by omega), p _ _ _ (by omega) (by omega), p _ _ _ (by omega) (by omega)]
  have di : ∀ g : Int → Int, (0 ≤ g 10 ∧ g 10 ≤ 30) → dispatches g t i = g i := fun g h10 => by
    have r := room30_10 h10
    have e : room30 g i = g i := by
      unfold room30
      split
      · rw [zu_n (by omega), shl_out g 58 (by omega)]
      · rfl
    unfold dispatches logd
    rw [zu_n (by omega), zu_n (by omega), zu_n (by omega), zu_n (by omega), zu_n (by omega), e]
  unfold step warms
  rw [p _ _ _ (by omega) (by omega)]
  split
  · unfold waits
    split
    · rw [ru]
      split
      · rw [di _ (by rw [put_n (by omega)]; exact n10), p _ _ _ (by omega) (by omega)]
      · rw [p _ _ _ (by omega) (by omega)]
    · rw [p _ _ _ (by omega) (by omega)]
  · split
    · obtain ⟨T, D, B, h, -, -⟩ := hJ
      have k := (h.2.2 t ht.1 ht.2).1.2.1
      have b := by_rng h ht
      unfold goes
      by_cases q : f (79 + 8 * t + 2) + by' f t < 100
      · rw [if_pos q, p _ _ _ (by omega) (by omega)]
      · rw [if_neg q, put_put]
        have j : J (put f t 2 (f (79 + 8 * t + 2) + by' f t - 100)) T D B := J_put h ht (by omega) (by omega) (by omega) (by omega) (by omega) (by omega) (by omega) (by omega)
        have e : put f t 2 (f (79 + 8 * t + 2) + by' f t - 100) i = f i := p _ _ _ (by omega) (by omega)
        rw [← e]
        generalize put f t 2 (f (79 + 8 * t + 2) + by' f t - 100) = g at j ⊢
        have le := squareOn_le g (g (79 + 8 * t + 0)) (after g (g (79 + 8 * t + 0))) (g (79 + 8 * t + 1)) (drag g t)
        unfold moves
        split
        · exact ly g
        · split
          · have jc := (came_J j ht (sq := squareOn g (g (79 + 8 * t + 0)) (after g (g (79 + 8 * t + 0))) (g (79 + 8 * t + 1)) (drag g t)) (by omega)).1
            rw [← ca g (squareOn g (g (79 + 8 * t + 0)) (after g (g (79 + 8 * t + 0))) (g (79 + 8 * t + 1)) (drag g t))]
            generalize came g t (squareOn g (g (79 + 8 * t + 0)) (after g (g (79 + 8 * t + 0))) (g (79 + 8 * t + 1)) (drag g t)) = r at jc ⊢
            have br := blockAt_rng jc (jc.2.2.2.2.2.2 t ht.1 ht.2).1
            have r1 := jc.2.1
            unfold comes
            rw [p _ _ _ (by omega) (by omega), zu_n (by omega), stn]
          · split
            · rw [ly, ca]
            · exact ca g _
    · rfl
theorem tick_far {f : Int → Int} {i : Int} (hX : InvX f) (hi : i < 0 ∨ 171 ≤ i) : tick f i = f i := by
  have w2 := hX.J.f.1.2.2.1
  have k : ∀ n : Nat, (n : Int) ≤ f 2 → steps f n i = f i := by
    intro n
    induction n with
    | zero => intro _; rfl
    | succ n ih =>
      intro hn
      simp only [steps]
      rw [step_far (steps_Jx hX n (by omega)).1 (by omega) hi]
      exact ih (by omega)
  unfold tick
  rw [zu_n (by omega)]
  exact k _ (by omega)
theorem tick_is {q q' : Nat} (hX : InvX (rwN q)) (h : ∀ n : Nat, n < 171 → tick (rwN q) (n : Int) = rwN q' (n : Int)) : tick (rwN q) = rwN q' := by
  funext i
  by_cases hi : 0 ≤ i ∧ i < 171
  · have k := h i.toNat (by omega)
    rw [show ((i.toNat : Nat) : Int) = i by omega] at k
    exact k
  · rw [tick_far hX (by omega)]
    unfold rwN
    rw [if_neg hi, if_neg hi]

def K0N : Nat := 0x10001000100010001000100010001000100010001000100010001000100010001000100010001000100010001000100010001000100010001000100010001000100010001000100010001000100010001000100010001000100010001000100010001000100010001000100010001000100010001000100010001000100010001000100010001000100010001000100010001000100010001000100010001000100010001000100010001000100010001000100010001000100010001000100010001000100010001000100010001000100010001000100010001000100010001000100010001000300010001000300010001000100010003000200020002000200030001000100010001000100010001000100010001000100010001000100010001000100020003000500030004000200050008000800060004000200010001000000010015000100060004000100010005000f
def K0 : CSt := nxt K0N (new0)
set_option maxRecDepth 100000 in
theorem kr_K0 : ∀ n : Nat, n < 171 → rwN K0N (n : Int) = new0.1 (n : Int) := by decide +kernel
theorem kt_K0 {S : Nat → Nat → Int → Int} (h : Tie new0 S) : Tie K0 S := tie_nxt h kr_K0
def eq11 (a b : X11) : Bool := Nat.beq a.1.1 b.1.1 && Nat.beq a.1.2.1 b.1.2.1 && Nat.beq a.1.2.2.1 b.1.2.2.1 && Nat.beq a.1.2.2.2.1 b.1.2.2.2.1 && Nat.beq a.1.2.2.2.2.1 b.1.2.2.2.2.1 && Nat.beq a.1.2.2.2.2.2.1 b.1.2.2.2.2.2.1 && Nat.beq a.1.2.2.2.2.2.2.1 b.1.2.2.2.2.2.2.1 && Nat.beq a.1.2.2.2.2.2.2.2 b.1.2.2.2.2.2.2.2 && Nat.beq a.2.1 b.2.1 && Nat.beq a.2.2.1 b.2.2.1 && Nat.beq a.2.2.2 b.2.2.2
theorem eq11_s {a b : X11} (h : fX a (fun a => eq11 a b) = true) : a = b := by
  rw [fX_eq] at h
  obtain ⟨⟨c, sq, pr, wa, mo, sd, mv, vs⟩, T, D, la⟩ := a
  obtain ⟨⟨c', sq', pr', wa', mo', sd', mv', vs'⟩, T', D', la'⟩ := b
  simp only [eq11, Bool.and_eq_true] at h
  obtain ⟨⟨⟨⟨⟨⟨⟨⟨⟨⟨h1, h2⟩, h3⟩, h4⟩, h5⟩, h6⟩, h7⟩, h8⟩, h9⟩, h10⟩, h11⟩ := h
  rw [Nat.eq_of_beq_eq_true h1, Nat.eq_of_beq_eq_true h2, Nat.eq_of_beq_eq_true h3, Nat.eq_of_beq_eq_true h4, Nat.eq_of_beq_eq_true h5, Nat.eq_of_beq_eq_true h6, Nat.eq_of_beq_eq_true h7, Nat.eq_of_beq_eq_true h8, Nat.eq_of_beq_eq_true h9, Nat.eq_of_beq_eq_true h10, Nat.eq_of_beq_eq_true h11]
