/-! One train on the first track, reckoned in small numbers -/
theorem TV_all {f g : Int → Int} (h : ∀ k : Int, 0 ≤ k → k < 8 → g (79 + 8 * 0 + k) = f (79 + 8 * 0 + k)) : (g (79 + 8 * 0 + 0) = f (79 + 8 * 0 + 0) ∧ g (79 + 8 * 0 + 1) = f (79 + 8 * 0 + 1) ∧ g (79 + 8 * 0 + 2) = f (79 + 8 * 0 + 2) ∧ g (79 + 8 * 0 + 3) = f (79 + 8 * 0 + 3)) ∧ g (79 + 8 * 0 + 4) = f (79 + 8 * 0 + 4) ∧ g (79 + 8 * 0 + 5) = f (79 + 8 * 0 + 5) ∧ g (79 + 8 * 0 + 6) = f (79 + 8 * 0 + 6) ∧ g (79 + 8 * 0 + 7) = f (79 + 8 * 0 + 7) :=
  ⟨⟨h 0 (by omega) (by omega), h 1 (by omega) (by omega), h 2 (by omega) (by omega), h 3 (by omega) (by omega)⟩, h 4 (by omega) (by omega), h 5 (by omega) (by omega), h 6 (by omega) (by omega), h 7 (by omega) (by omega)⟩
def TV (f : Int → Int) (c sq pr wa mo sd mv vs : Int) : Prop := (f (79 + 8 * 0 + 0) = c ∧ f (79 + 8 * 0 + 1) = sq ∧ f (79 + 8 * 0 + 2) = pr ∧ f (79 + 8 * 0 + 3) = wa) ∧ f (79 + 8 * 0 + 4) = mo ∧ f (79 + 8 * 0 + 5) = sd ∧ f (79 + 8 * 0 + 6) = mv ∧ f (79 + 8 * 0 + 7) = vs
theorem TV_same {f g : Int → Int} {c sq pr wa mo sd mv vs : Int} (h : TV f c sq pr wa mo sd mv vs) (e : ∀ k : Int, 0 ≤ k → k < 8 → g (79 + 8 * 0 + k) = f (79 + 8 * 0 + k)) : TV g c sq pr wa mo sd mv vs := by
  obtain ⟨⟨a, b, c, d⟩, e4, e5, e6, e7⟩ := TV_all e
  unfold TV
  rw [a, b, c, d, e4, e5, e6, e7]
  exact h
section TVP
variable {f : Int → Int} {c sq pr wa mo sd mv vs v : Int}
theorem TV_p0 (h : TV f c sq pr wa mo sd mv vs) : TV (put f 0 0 v) v sq pr wa mo sd mv vs := by
  unfold TV at h ⊢; simp only [put_row]; simpa using h.imp (fun q => q.2) id
theorem TV_p1 (h : TV f c sq pr wa mo sd mv vs) : TV (put f 0 1 v) c v pr wa mo sd mv vs := by
  unfold TV at h ⊢; simp only [put_row]; simpa using h.imp (fun q => ⟨q.1, q.2.2⟩) id
theorem TV_p2 (h : TV f c sq pr wa mo sd mv vs) : TV (put f 0 2 v) c sq v wa mo sd mv vs := by
  unfold TV at h ⊢; simp only [put_row]; simpa using h.imp (fun q => ⟨q.1, q.2.1, q.2.2.2⟩) id
theorem TV_p3 (h : TV f c sq pr wa mo sd mv vs) : TV (put f 0 3 v) c sq pr v mo sd mv vs := by
  unfold TV at h ⊢; simp only [put_row]; simpa using h.imp (fun q => ⟨q.1, q.2.1, q.2.2.1⟩) id
theorem TV_p4 (h : TV f c sq pr wa mo sd mv vs) : TV (put f 0 4 v) c sq pr wa v sd mv vs := by
  unfold TV at h ⊢; simp only [put_row]; simpa using h.imp id (fun q => q.2)
theorem TV_p5 (h : TV f c sq pr wa mo sd mv vs) : TV (put f 0 5 v) c sq pr wa mo v mv vs := by
  unfold TV at h ⊢; simp only [put_row]; simpa using h.imp id (fun q => ⟨q.1, q.2.2⟩)
theorem TV_p6 (h : TV f c sq pr wa mo sd mv vs) : TV (put f 0 6 v) c sq pr wa mo sd v vs := by
  unfold TV at h ⊢; simp only [put_row]; simpa using h.imp id (fun q => ⟨q.1, q.2.1, q.2.2.2⟩)
theorem TV_p7 (h : TV f c sq pr wa mo sd mv vs) : TV (put f 0 7 v) c sq pr wa mo sd mv v := by
  unfold TV at h ⊢; simp only [put_row]; simpa using h.imp id (fun q => ⟨q.1, q.2.1, q.2.2.1⟩)
theorem TV_stands (h : TV f c sq pr wa mo sd mv vs) : TV (stands f 0) c 0 0 wa 1 0 mv vs := TV_p5 (TV_p2 (TV_p1 (TV_p4 h)))
theorem TV_lies (h : TV f c sq pr wa mo sd mv vs) : TV (lies f 0) c 0 0 wa 2 sd mv vs := TV_p2 (TV_p1 (TV_p4 h))
theorem TV_runs (h : TV f c sq pr wa mo sd mv vs) : TV (runs f 0) c 25 0 wa 0 0 mv vs := TV_p5 (TV_p2 (TV_p1 (TV_p4 h)))
theorem TV_came (h : TV f c sq pr wa mo sd mv vs) : TV (came f 0 v) (after f c) v pr wa mo sd (mv + 1) vs := by
  have e0 := h.1.1
  have e6 := h.2.2.2.1
  unfold came
  rw [e0, e6]
  exact TV_p1 (TV_p6 (TV_p0 h))
theorem TV_comes (h : TV f c sq pr wa mo sd mv vs) (hb : 0 ≤ blockAt f c ∧ blockAt f c < 8) : TV (comes f 0) c 0 0 wa 1 0 mv (vs + (if blockAt f c = 0 then 1 else 0)) := by
  have e0 := h.1.1
  have e7 := h.2.2.2.2
  unfold comes
  rw [e0, e7]
  exact TV_p7 (TV_same (TV_stands h) (fun k k0 k1 => zu_n (by omega)))
theorem TV_disp (h : TV f c sq pr wa mo sd mv vs) (h10 : 0 ≤ f 10 ∧ f 10 ≤ 30) : TV (dispatches f 0) c sq pr wa mo sd mv vs := TV_same h (fun k k0 k1 => disp_out h10 (by omega) (by omega) (by omega) (by omega))
end TVP
def warmZ (ai w : Int) : Int := near (cap100 w) ai
theorem TV_warms {f : Int → Int} {c sq pr wa mo sd mv vs ai : Int} (h : TV f c sq pr wa mo sd mv vs) (h7 : f 7 = ai) : TV (warms f 0) c sq pr (warmZ ai (wa + (if mo = 0 then root sq / 10 else 0))) mo sd mv vs := by
  have e1 := h.1.2.1
  have e3 := h.1.2.2.2
  have e4 := h.2.1
  have k := TV_p3 (v := warmZ ai (wa + (if mo = 0 then root sq / 10 else 0))) h
  unfold warms heat
  rw [e1, e3, e4, h7]
  exact k
/-- the first track's kinds and blocks -/
def kA (c : Nat) : Nat := (0x20020000211112 >>> (4 * c)) % 16
def hA (H c : Nat) : Nat := (H >>> (4 * c)) % 16
def bA (c : Nat) : Nat := (0x33322222111110 >>> (4 * c)) % 16
def nA (c : Nat) : Nat := (c + 1) % 14
def kf : Int → Int := fun i => kA (i - 41).toNat
def Tr0 (H : Nat) (f : Int → Int) : Prop := f 0 = 14 ∧ f 1 = 4 ∧ ∀ c : Nat, c < 14 → f (11 + (c : Int)) = (hA H c : Int) ∧ f (41 + (c : Int)) = (kA c : Int)
theorem kf_at (c : Nat) : kf (41 + (c : Int)) = (kA c : Int) := by
  unfold kf
  rw [show (41 + (c : Int) - 41).toNat = c by omega]
theorem Tr0_cnt {H : Nat} {f : Int → Int} (h : Tr0 H f) {n : Nat} (hn : n ≤ 14) : cnt f n = cnt kf n := cnt_congr (f := kf) (fun k hk => by rw [kf_at]; exact (h.2.2 k (by omega)).2)
theorem kf_cnt : ∀ c : Nat, c < 14 → (if cnt kf c = 4 then 0 else cnt kf c) = (bA c : Int) := by decide +kernel
theorem Tr0_blk {H : Nat} {f : Int → Int} (h : Tr0 H f) {c : Nat} (hc : c < 14) : blockAt f (c : Int) = (bA c : Int) := by
  unfold blockAt
  rw [Int.toNat_natCast, Tr0_cnt h (by omega), h.2.1]
  exact kf_cnt c hc
theorem Tr0_after {H : Nat} {f : Int → Int} (h : Tr0 H f) {c : Nat} (hc : c < 14) : after f (c : Int) = (nA c : Int) := by
  unfold after nA
  rw [h.1]
  split <;> omega
theorem nA_lt (c : Nat) : nA c < 14 := Nat.mod_lt _ (by decide)
theorem bA_0 : ∀ c : Nat, c < 14 → ((bA c = 0 ↔ c = 0) ∧ bA c < 4) := by decide +kernel
theorem kA_le : ∀ c : Nat, c < 14 → kA c ≤ 2 := by decide +kernel
/-- the root, by halves -/
def rb : Nat → Nat → Nat → Nat
  | 0, r, _ => r
  | k + 1, r, n => cond (Nat.ble ((r + 2 ^ k) * (r + 2 ^ k)) n) (rb k (r + 2 ^ k) n) (rb k r n)
theorem rb_spec (k : Nat) : ∀ r n : Nat, r * r ≤ n → n < (r + 2 ^ k) * (r + 2 ^ k) → rb k r n * rb k r n ≤ n ∧ n < (rb k r n + 1) * (rb k r n + 1) := by
  induction k with
  | zero => intro r n h1 h2; exact ⟨h1, h2⟩
  | succ k ih =>
    intro r n h1 h2
    simp only [rb]
    have e : r + 2 ^ k + 2 ^ k = r + 2 ^ (k + 1) := by rw [Nat.pow_succ]; omega
    cases q : Nat.ble ((r + 2 ^ k) * (r + 2 ^ k)) n with
    | true => exact ih _ _ (Nat.le_of_ble_eq_true q) (by rw [e]; exact h2)
    | false => exact ih _ _ h1 (Nat.lt_of_not_le (fun z => by rw [Nat.ble_eq_true_of_le z] at q; cases q))
def rtN (n : Nat) : Nat := rb 7 0 n
theorem rtN_root {n : Nat} (h : n ≤ 9999) : root (n : Int) = (rtN n : Int) := by
  obtain ⟨a, b⟩ := rb_spec 7 0 n (Nat.zero_le _) (by have : (0 + 2 ^ 7) * (0 + 2 ^ 7) = 16384 := rfl; omega)
  refine (root_eq (n := (n : Int)) (r := ((rtN n : Nat) : Int)) (by omega) (by omega) ?_ ?_).symm
  · have : ((rtN n * rtN n : Nat) : Int) ≤ (n : Int) := Int.ofNat_le.mpr a
    rw [Int.natCast_mul] at this; exact this
  · have : (n : Int) < (((rtN n + 1) * (rtN n + 1) : Nat) : Int) := Int.ofNat_lt.mpr b
    rw [Int.natCast_mul, Int.natCast_add] at this; exact this
def warmN (ai w : Nat) : Nat := cond (Nat.ble w 100) (cond (Nat.blt w ai) (w + 1) (cond (Nat.blt ai w) (w - 1) w)) (cond (Nat.blt 100 ai) 101 (cond (Nat.blt ai 100) 99 100))
theorem warm_eq (ai w : Nat) : warmZ (ai : Int) (w : Int) = (warmN ai w : Int) := by
  unfold warmZ warmN near cap100
  cases q : Nat.ble w 100 with
  | true =>
    have q1 := Nat.le_of_ble_eq_true q
    rw [if_neg (show ¬ (100 : Int) < (w : Int) by omega)]
    cases p : Nat.blt w ai with
    | true =>
      have p1 : w < ai := Nat.le_of_ble_eq_true p
      rw [if_pos (by omega)]; rfl
    | false =>
      have p1 : ¬ w < ai := fun z => by rw [show Nat.blt w ai = true from Nat.ble_eq_true_of_le z] at p; cases p
      rw [if_neg (by omega)]
      cases p2 : Nat.blt ai w with
      | true =>
        have p3 : ai < w := Nat.le_of_ble_eq_true p2
        rw [if_pos (by omega)]
        show (w : Int) - 1 = ((w - 1 : Nat) : Int)
        omega
      | false =>
        have p3 : ¬ ai < w := fun z => by rw [show Nat.blt ai w = true from Nat.ble_eq_true_of_le z] at p2; cases p2
        rw [if_neg (by omega)]; rfl
  | false =>
    have q1 : ¬ w ≤ 100 := fun z => by rw [Nat.ble_eq_true_of_le z] at q; cases q
    rw [if_pos (show (100 : Int) < (w : Int) by omega)]
    cases p : Nat.blt 100 ai with
    | true =>
      have p1 : 100 < ai := Nat.le_of_ble_eq_true p
      rw [if_pos (by omega)]; rfl
    | false =>
      have p1 : ¬ 100 < ai := fun z => by rw [show Nat.blt 100 ai = true from Nat.ble_eq_true_of_le z] at p; cases p
      rw [if_neg (by omega)]
      cases p2 : Nat.blt ai 100 with
      | true =>
        have p3 : ai < 100 := Nat.le_of_ble_eq_true p2
        rw [if_pos (by omega)]; rfl
      | false =>
        have p3 : ¬ ai < 100 := fun z => by rw [show Nat.blt ai 100 = true from Nat.ble_eq_true_of_le z] at p2; cases p2
        rw [if_neg (by omega)]; rfl
/-! The train's numbers: cell, square, progress, warmth, mode, standing, moved, visits -/
abbrev U8 := Nat × Nat × Nat × Nat × Nat × Nat × Nat × Nat
def dragN (fr wa : Nat) : Nat := fr + (60 - wa) / 10
/-- where a running train goes -/
def goU (H fr ai : Nat) (c sq pr wa sd mv vs : Nat) : U8 :=
  cond (Nat.blt (pr + cond (Nat.beq (kA c) 1) 5 (rtN sq)) 100) (c, sq, pr + cond (Nat.beq (kA c) 1) 5 (rtN sq), warmN ai (wa + rtN sq / 10), 0, sd, mv, vs)
    (cond (Nat.beq (kA (nA c)) 1) (nA c, 25, pr + cond (Nat.beq (kA c) 1) 5 (rtN sq) - 100, warmN ai wa, 0, sd, mv + 1, vs)
      (cond (Nat.blt (sq + 100 * hA H c) (100 * hA H (nA c) + dragN fr wa)) (c, 0, 0, warmN ai wa, 2, sd, mv, vs)
        (cond (Nat.beq (kA (nA c)) 2) (nA c, 0, 0, warmN ai wa, 1, 0, mv + 1, vs + cond (Nat.beq (nA c) 0) 1 0)
          (cond (Nat.beq (sq + 100 * hA H c - (100 * hA H (nA c) + dragN fr wa)) 0) (nA c, 0, 0, warmN ai wa, 2, sd, mv + 1, vs)
            (nA c, Nat.min (sq + 100 * hA H c - (100 * hA H (nA c) + dragN fr wa)) 9999, pr + cond (Nat.beq (kA c) 1) 5 (rtN sq) - 100, warmN ai (wa + rtN (Nat.min (sq + 100 * hA H c - (100 * hA H (nA c) + dragN fr wa)) 9999) / 10), 0, sd, mv + 1, vs)))))
def TU (f : Int → Int) (u : U8) : Prop := TV f (u.1 : Int) (u.2.1 : Int) (u.2.2.1 : Int) (u.2.2.2.1 : Int) (u.2.2.2.2.1 : Int) (u.2.2.2.2.2.1 : Int) (u.2.2.2.2.2.2.1 : Int) (u.2.2.2.2.2.2.2 : Int)
theorem cond_beq {α : Type} (a b : Nat) (x y : α) : cond (Nat.beq a b) x y = if a = b then x else y := by
  cases q : Nat.beq a b with
  | true => rw [if_pos (Nat.eq_of_beq_eq_true q)]; rfl
  | false => rw [if_neg (Nat.ne_of_beq_eq_false q)]; rfl
theorem cond_ble {α : Type} (a b : Nat) (x y : α) : cond (Nat.ble a b) x y = if a ≤ b then x else y := by
  cases q : Nat.ble a b with
  | true => rw [if_pos (Nat.le_of_ble_eq_true q)]; rfl
  | false => rw [if_neg (fun z => by rw [Nat.ble_eq_true_of_le z] at q; cases q)]; rfl
theorem cond_blt {α : Type} (a b : Nat) (x y : α) : cond (Nat.blt a b) x y = if a < b then x else y := cond_ble (a + 1) b x y
theorem TU_w {g : Int → Int} {c sq pr wa mo sd mv vs ai : Nat} (h : TV g (c : Int) (sq : Int) (pr : Int) (wa : Int) (mo : Int) (sd : Int) (mv : Int) (vs : Int)) (h7 : g 7 = (ai : Int)) (hsq : sq ≤ 9999) : TU (warms g 0) (c, sq, pr, warmN ai (wa + (if mo = 0 then rtN sq / 10 else 0)), mo, sd, mv, vs) := by
  have k := TV_warms h h7
  have e : (wa : Int) + (if (mo : Int) = 0 then root (sq : Int) / 10 else 0) = ((wa + (if mo = 0 then rtN sq / 10 else 0) : Nat) : Int) := by
    by_cases q : mo = 0
    · subst q
      rw [if_pos (show ((0 : Nat) : Int) = 0 from rfl), if_pos (rfl : (0 : Nat) = 0), rtN_root hsq]; omega
    · rw [if_neg q, if_neg (by omega)]; omega
  rw [e, warm_eq] at k
  exact k
theorem drag_N {f : Int → Int} {fr wa : Nat} (h4 : f 4 = (fr : Int)) (h3 : f (79 + 8 * 0 + 3) = (wa : Int)) : drag f 0 = (dragN fr wa : Int) := by
  unfold drag dragN
  rw [h4, h3]
  split <;> omega
theorem sqr_N {f : Int → Int} {H c sq d : Nat} (tr : Tr0 H f) (hc : c < 14) : squareOn f (c : Int) (nA c : Int) (sq : Int) (d : Int) = if kA (nA c) = 1 then 25 else if 9999 < (sq : Int) + 100 * (hA H c : Int) - 100 * (hA H (nA c) : Int) - (d : Int) then 9999 else (sq : Int) + 100 * (hA H c : Int) - 100 * (hA H (nA c) : Int) - (d : Int) := by
  have a := (tr.2.2 c hc).1
  have b := tr.2.2 (nA c) (nA_lt c)
  unfold squareOn sqr
  rw [a, b.1, b.2]
  by_cases q : kA (nA c) = 1
  · have q' : ((kA (nA c) : Nat) : Int) = 1 := by omega
    rw [if_pos q]
    simp only [if_pos q']
    rw [if_neg (by omega)]
  · have q' : ¬ ((kA (nA c) : Nat) : Int) = 1 := by omega
    rw [if_neg q]
    simp only [if_neg q']
theorem after_0 : ∀ c : Nat, c < 14 → ((nA c = 0 ↔ bA (nA c) = 0)) := by decide +kernel
theorem moves_TU {f : Int → Int} {H fr ai c sq p wa sd mv vs : Nat} (tr : Tr0 H f) (h4 : f 4 = (fr : Int)) (h7 : f 7 = (ai : Int)) (hJ : Jx f) (hc : c < 14) (h : TV f (c : Int) (sq : Int) (p : Int) (wa : Int) ((0 : Nat) : Int) (sd : Int) (mv : Int) (vs : Int)) :
    TU (warms (moves f 0) 0) (if kA (nA c) = 1 then (nA c, 25, p, warmN ai wa, 0, sd, mv + 1, vs)
      else if sq + 100 * hA H c < 100 * hA H (nA c) + dragN fr wa then (c, 0, 0, warmN ai wa, 2, sd, mv, vs)
      else if kA (nA c) = 2 then (nA c, 0, 0, warmN ai wa, 1, 0, mv + 1, vs + (if nA c = 0 then 1 else 0))
      else if sq + 100 * hA H c - (100 * hA H (nA c) + dragN fr wa) = 0 then (nA c, 0, 0, warmN ai wa, 2, sd, mv + 1, vs)
      else (nA c, Nat.min (sq + 100 * hA H c - (100 * hA H (nA c) + dragN fr wa)) 9999, p, warmN ai (wa + rtN (Nat.min (sq + 100 * hA H c - (100 * hA H (nA c) + dragN fr wa)) 9999) / 10), 0, sd, mv + 1, vs)) := by
  have m7 : moves f 0 7 = (ai : Int) := by
    obtain ⟨T, D, B, hj, -, -⟩ := hJ
    rw [moves_2 hj (by omega) (by omega)]; exact h7
  have e0 := h.1.1
  have e1 := h.1.2.1
  have e3 := h.1.2.2.2
  have ea : after f (c : Int) = (nA c : Int) := Tr0_after tr hc
  have hn := nA_lt c
  have kn := (tr.2.2 (nA c) hn).2
  have kl := kA_le (nA c) hn
  have hb := Tr0_blk tr hn
  have b4 := (bA_0 (nA c) hn).2
  have bz := (bA_0 (nA c) hn).1
  have hd := drag_N h4 e3
  have hs := sqr_N (sq := sq) (d := dragN fr wa) tr hc
  have ca : ∀ s : Int, TV (came f 0 s) (nA c : Int) s (p : Int) (wa : Int) ((0 : Nat) : Int) (sd : Int) ((mv + 1 : Nat) : Int) (vs : Int) := fun s => by
    have k := TV_came (v := s) h
    rw [ea] at k
    exact k
  unfold moves at m7 ⊢
  rw [e0, ea, e1, hd, hs, kn] at m7 ⊢
  by_cases q1 : kA (nA c) = 1
  · simp only [if_pos q1] at m7 ⊢
    rw [if_neg (by omega), if_neg (by omega), if_neg (by omega)] at m7 ⊢
    have k := TU_w (sq := 25) (ca 25) m7 (by omega)
    rw [if_pos rfl, show rtN 25 / 10 = 0 from by decide, Nat.add_zero] at k
    exact k
  · simp only [if_neg q1] at m7 ⊢
    generalize hX : (sq : Int) + 100 * (hA H c : Int) - 100 * (hA H (nA c) : Int) - (dragN fr wa : Int) = X at m7 ⊢
    by_cases q2 : sq + 100 * hA H c < 100 * hA H (nA c) + dragN fr wa
    · have x0 : (if 9999 < X then 9999 else X) < 0 := by rw [if_neg (by omega)]; omega
      rw [if_pos x0] at m7
      rw [if_pos x0, if_pos q2]
      have k := TU_w (sq := 0) (mo := 2) (TV_lies h) m7 (by omega)
      rw [if_neg (by omega), Nat.add_zero] at k
      exact k
    · have x0 : ¬ (if 9999 < X then 9999 else X) < 0 := by split <;> omega
      rw [if_neg x0] at m7
      rw [if_neg x0, if_neg q2]
      have eX : (if 9999 < X then 9999 else X) = ((Nat.min (sq + 100 * hA H c - (100 * hA H (nA c) + dragN fr wa)) 9999 : Nat) : Int) := by
        show _ = ((min (sq + 100 * hA H c - (100 * hA H (nA c) + dragN fr wa)) 9999 : Nat) : Int)
        split <;> omega
      by_cases q3 : kA (nA c) = 2
      · rw [if_pos (show ((kA (nA c) : Nat) : Int) = 2 by omega)] at m7
        rw [if_pos (show ((kA (nA c) : Nat) : Int) = 2 by omega), if_pos q3]
        have bl : blockAt (came f 0 (if 9999 < X then 9999 else X)) (nA c : Int) = (bA (nA c) : Int) := by
          rw [blockAt_congr (f := f) (by omega) (came_2 (by omega) (by omega)) (fun i _ _ => came_2 (by omega) (by omega)), hb]
        have k0 := TV_comes (ca (if 9999 < X then 9999 else X)) (by rw [bl]; omega)
        rw [bl] at k0
        have k := TU_w (c := nA c) (sq := 0) (pr := 0) (wa := wa) (mo := 1) (sd := 0) (mv := mv + 1) (vs := vs + (if nA c = 0 then 1 else 0)) (ai := ai) (by
          have e9 : ((vs + (if nA c = 0 then 1 else 0) : Nat) : Int) = (vs : Int) + (if (bA (nA c) : Int) = 0 then 1 else 0) := by
            by_cases z : nA c = 0
            · have := bz.mpr z
              rw [if_pos z, if_pos (by omega)]; omega
            · have : ¬ bA (nA c) = 0 := fun w => z (bz.mp w)
              rw [if_neg z, if_neg (by omega)]; omega
          rw [e9]; exact k0) m7 (by omega)
        rw [if_neg (show ¬ (1 = 0) by omega), Nat.add_zero] at k
        exact k
      · rw [if_neg (show ¬ ((kA (nA c) : Nat) : Int) = 2 by omega)] at m7
        rw [if_neg (show ¬ ((kA (nA c) : Nat) : Int) = 2 by omega), if_neg q3]
        by_cases q4 : sq + 100 * hA H c - (100 * hA H (nA c) + dragN fr wa) = 0
        · have z : (if 9999 < X then 9999 else X) = 0 ∧ ¬ ((kA (nA c) : Nat) : Int) = 1 := ⟨by rw [if_neg (by omega)]; omega, by omega⟩
          rw [if_pos z] at m7
          rw [if_pos z, if_pos q4]
          have k := TU_w (sq := 0) (mo := 2) (TV_lies (ca (if 9999 < X then 9999 else X))) m7 (by omega)
          rw [if_neg (by omega), Nat.add_zero] at k
          exact k
        · have z : ¬ ((if 9999 < X then 9999 else X) = 0 ∧ ¬ ((kA (nA c) : Nat) : Int) = 1) := fun w => by
            have := w.1
            split at this <;> omega
          rw [if_neg z] at m7
          rw [if_neg z, if_neg q4]
          rw [eX] at m7 ⊢
          have k := TU_w (ca ((Nat.min (sq + 100 * hA H c - (100 * hA H (nA c) + dragN fr wa)) 9999 : Nat) : Int)) m7 (Nat.min_le_right _ _)
          rw [if_pos rfl] at k
          exact k
theorem goes_TU {f : Int → Int} {H fr ai c sq pr wa sd mv vs : Nat} (tr : Tr0 H f) (h4 : f 4 = (fr : Int)) (h7 : f 7 = (ai : Int)) (hJ : Jx f) (hc : c < 14) (hsq : sq ≤ 9999) (h : TV f (c : Int) (sq : Int) (pr : Int) (wa : Int) ((0 : Nat) : Int) (sd : Int) (mv : Int) (vs : Int)) : TU (warms (goes f 0) 0) (goU H fr ai c sq pr wa sd mv vs) := by
  have g7 : goes f 0 7 = (ai : Int) := by
    obtain ⟨T, D, B, hj, -, -⟩ := hJ
    rw [goes_2 hj (by omega) (by omega)]; exact h7
  have e0 := h.1.1
  have e1 := h.1.2.1
  have e2 := h.1.2.2.1
  have kc := (tr.2.2 c hc).2
  have hv : by' f 0 = ((cond (Nat.beq (kA c) 1) 5 (rtN sq) : Nat) : Int) := by
    unfold by'
    rw [e0, e1, kc, cond_beq, rtN_root hsq]
    by_cases q : kA c = 1
    · rw [if_pos q, if_pos (by omega)]; rfl
    · rw [if_neg q, if_neg (by omega)]
  have hbr := by_rng (f := f) (t := 0) hJ.choose_spec.choose_spec.choose_spec.1 (by omega)
  unfold goU
  generalize cond (Nat.beq (kA c) 1) 5 (rtN sq) = v at hv ⊢
  simp only [cond_blt, cond_beq]
  unfold goes at g7 ⊢
  rw [e2, hv] at g7 ⊢
  by_cases q : pr + v < 100
  · rw [if_pos (by omega)] at g7
    rw [if_pos (by omega), if_pos q]
    have k := TU_w (ai := ai) (pr := pr + v) (mo := 0) (TV_p2 (v := ((pr + v : Nat) : Int)) h) (by rw [Int.natCast_add]; exact g7) hsq
    rw [if_pos rfl, Int.natCast_add] at k
    exact k
  · rw [if_neg (by omega), if_neg q, put_put]
    rw [show (pr : Int) + (v : Int) - 100 = ((pr + v - 100 : Nat) : Int) by omega]
    have e2r : 0 ≤ ((pr + v - 100 : Nat) : Int) ∧ ((pr + v - 100 : Nat) : Int) ≤ 99 := by
      have := (hJ.f.2.2 0 (by omega) (by omega)).2.1
      rw [e2] at this
      omega
    refine moves_TU (f := put f 0 2 ((pr + v - 100 : Nat) : Int)) ⟨?_, ?_, fun c' hc' => ⟨?_, ?_⟩⟩ ?_ ?_ (hJ.put2 (by omega) e2r) hc (TV_p2 h)
    · rw [put_n (by omega)]; exact tr.1
    · rw [put_n (by omega)]; exact tr.2.1
    · rw [put_n (by omega)]; exact (tr.2.2 c' hc').1
    · rw [put_n (by omega)]; exact (tr.2.2 c' hc').2
    · rw [put_n (by omega)]; exact h4
    · rw [put_n (by omega)]; exact h7
