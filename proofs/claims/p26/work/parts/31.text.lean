/-! A train put on; the text; a ride and the text -/
theorem rel_addT {f : Int → Int} {R : Nat → Int → Int} {n : Nat} {b x : Int} (h : Rel f R) (hW : Wf f) (hn : f 2 = (n : Int)) (h4 : n < 4) (hx : x = f 7) :
    Rel (addT f b) (uc (uc R (8 + n) (zu (zu (zu (zu (zu (zu (zu (zu (R (8 + n)) 0 (brakeOf f b)) 1 0) 2 0) 4 1) 5 0) 3 x) 6 0) 7 0)) 0 (zu (uc R (8 + n) (zu (zu (zu (zu (zu (zu (zu (zu (R (8 + n)) 0 (brakeOf f b)) 1 0) 2 0) 4 1) 5 0) 3 x) 6 0) 7 0) 0) 0 (f 2 + 1))) := by
  subst hx
  obtain ⟨⟨a1, a2, a3, a4, a5⟩, bb, c, ⟨d1, d2, d3, d4⟩, e, l⟩ := h
  have w0 := hW.1; have w1 := hW.2.1
  generalize hw : zu (zu (zu (zu (zu (zu (zu (zu (R (8 + n)) 0 (brakeOf f b)) 1 0) 2 0) 4 1) 5 0) 3 (f 7)) 6 0) 7 0 = w
  have o : ∀ i : Int, i ≠ 2 → (i < 79 + 8 * (n : Int) ∨ 79 + 8 * (n : Int) + 8 ≤ i) → addT f b i = f i := fun i h2 hi => by
    unfold addT stands
    rw [hn, put_n (by omega), put_n (by omega), put_n (by omega), put_n (by omega), put_n (by omega), put_n (by omega), put_n (by omega), put_n (by omega), zu_n h2]
  have o2 : addT f b 2 = f 2 + 1 := by
    unfold addT stands
    rw [hn, put_n (by omega), put_n (by omega), put_n (by omega), put_n (by omega), put_n (by omega), put_n (by omega), put_n (by omega), put_n (by omega), zu_s]
  have u0 : ∀ j : Nat, j < 8 ∨ 12 ≤ j → uc R (8 + n) w j = R j := fun j hj => uc_n (by omega)
  have u1 : ∀ j : Nat, j ≠ 0 → (j < 8 ∨ 12 ≤ j) → uc (uc R (8 + n) w) 0 (zu (uc R (8 + n) w 0) 0 (f 2 + 1)) j = R j := fun j h0 hj => by rw [uc_n h0, u0 j hj]
  refine ⟨⟨?_, ?_, ?_, ?_, ?_⟩, fun q q0 q1 => ?_, fun q q0 q1 => ?_, ⟨?_, ?_, ?_, ?_⟩, fun u hu k k0 k1 => ?_, fun i i0 i1 => ?_⟩
  · rw [u1 1 (by omega) (by omega), o 0 (by omega) (by omega)]; exact a1
  · rw [u1 1 (by omega) (by omega), o 1 (by omega) (by omega)]; exact a2
  · rw [uc_s, o2, zu_s]
  · rw [uc_s, zu_n (by omega), u0 0 (by omega), o 3 (by omega) (by omega)]; exact a4
  · rw [uc_s, zu_n (by omega), u0 0 (by omega), o 8 (by omega) (by omega)]; exact a5
  · rw [o 0 (by omega) (by omega)] at q1
    rw [u1 2 (by omega) (by omega), u1 3 (by omega) (by omega), u1 4 (by omega) (by omega), o _ (by omega) (by omega), o _ (by omega) (by omega), blockAt_congr (f := f) (by omega) (o 1 (by omega) (by omega)) (fun i _ _ => o i (by omega) (by omega))]
    exact bb q q0 q1
  · rw [o 1 (by omega) (by omega)] at q1
    rw [u1 5 (by omega) (by omega), u1 12 (by omega) (by omega), brakeOf_congr (f := f) (fun i _ _ => o i (by omega) (by omega)), o _ (by omega) (by omega)]
    exact c q q0 q1
  · rw [u1 7 (by omega) (by omega), o 4 (by omega) (by omega)]; exact d1
  · rw [u1 7 (by omega) (by omega), o 5 (by omega) (by omega)]; exact d2
  · rw [u1 7 (by omega) (by omega), o 6 (by omega) (by omega)]; exact d3
  · rw [u1 7 (by omega) (by omega), o 7 (by omega) (by omega)]; exact d4
  · rw [o2] at hu
    rw [uc_n (by omega)]
    by_cases z : u = n
    · subst z
      rw [uc_s, ← hw]
      unfold addT stands
      rw [hn]
      simp only [put_row, zu_at]
      rcases k8 k0 k1 with rfl | rfl | rfl | rfl | rfl | rfl | rfl | rfl <;> simp
    · rw [uc_n (by omega), o _ (by omega) (by omega)]
      exact e u (by omega) k k0 k1
  · rw [o 10 (by omega) (by omega)] at i1
    rw [u1 13 (by omega) (by omega), u1 14 (by omega) (by omega), o 8 (by omega) (by omega), o 10 (by omega) (by omega)]
    by_cases z : i < 30
    · rw [o _ (by omega) (by omega), o _ (by omega) (by omega)]; exact l i i0 i1
    · rw [o _ (by omega) (by omega), o _ (by omega) (by omega)]; exact l i i0 i1
def wX (y : Nat → ClassId) (b : Nat → Nat) (x : Int → Int) (ln : Int) : va_W := [(b 0, .inr (2, [.ref (b 1), .int (iZ ln)])), (b 1, .inl (y 0, 90, .inl (zA x)))]
def wRX (y : Nat → ClassId) (a : Nat → Nat) (R : Nat → Int → Int) (b : Nat → Nat) (x : Int → Int) (ln : Int) : va_W := wR y a R ++ wX y b x ln
section WX
variable {y : Nat → ClassId} {a b : Nat → Nat} {R : Nat → Int → Int} {x g : Int → Int} {ln z : Int}
theorem wX_0 : (wX y b x ln)[0]? = some (b 0, .inr (2, [.ref (b 1), .int (iZ ln)])) := rfl
theorem wX_1 : (wX y b x ln)[1]? = some (b 1, .inl (y 0, 90, .inl (zA x))) := rfl
theorem wX_s0 : (wX y b x ln).set 0 (b 0, .inr (2, [.ref (b 1), .int (iZ z)])) = wX y b x z := rfl
theorem wX_s1 : (wX y b x ln).set 1 (b 1, .inl (y 0, 90, .inl (zA g))) = wX y b g ln := rfl
theorem wRX_0 : (wRX y a R b x ln)[0]? = some (a 0, .inr (0, [.ref (a 1), .ref (a 6), .ref (a 7), .ref (a 12), .ref (a 13), .ref (a 14), .int (iZ (R 0 0)), .int (iZ (R 0 1)), .int (iZ (R 0 2))])) := rfl
theorem wRX_1 : (wRX y a R b x ln)[1]? = some (a 1, .inr (1, [.ref (a 2), .ref (a 3), .ref (a 4), .ref (a 5), .int (iZ (R 1 0)), .int (iZ (R 1 1))])) := rfl
theorem wRX_2 : (wRX y a R b x ln)[2]? = some (a 2, .inl (y 0, 30, .inl (zA (R 2)))) := rfl
theorem wRX_3 : (wRX y a R b x ln)[3]? = some (a 3, .inl (y 0, 30, .inl (zA (R 3)))) := rfl
theorem wRX_4 : (wRX y a R b x ln)[4]? = some (a 4, .inl (y 0, 30, .inl (zA (R 4)))) := rfl
theorem wRX_5 : (wRX y a R b x ln)[5]? = some (a 5, .inl (y 0, 8, .inl (zA (R 5)))) := rfl
theorem wRX_6 : (wRX y a R b x ln)[6]? = some (a 6, .inl (y 1, 4, .inr (.inr (.inr (.inr (fun j => some (a (8 + j)))))))) := rfl
theorem wRX_7 : (wRX y a R b x ln)[7]? = some (a 7, .inl (y 0, 4, .inl (zA (R 7)))) := rfl
theorem wRX_12 : (wRX y a R b x ln)[12]? = some (a 12, .inl (y 0, 8, .inl (zA (R 12)))) := rfl
theorem wRX_13 : (wRX y a R b x ln)[13]? = some (a 13, .inl (y 0, 30, .inl (zA (R 13)))) := rfl
theorem wRX_14 : (wRX y a R b x ln)[14]? = some (a 14, .inl (y 0, 30, .inl (zA (R 14)))) := rfl
theorem wRX_s0_0 : (wRX y a R b x ln).set 0 (a 0, .inr (0, [.ref (a 1), .ref (a 6), .ref (a 7), .ref (a 12), .ref (a 13), .ref (a 14), .int (iZ z), .int (iZ (R 0 1)), .int (iZ (R 0 2))])) = wRX y a (uc R 0 (zu (R 0) 0 z)) b x ln := rfl
theorem wRX_s0_1 : (wRX y a R b x ln).set 0 (a 0, .inr (0, [.ref (a 1), .ref (a 6), .ref (a 7), .ref (a 12), .ref (a 13), .ref (a 14), .int (iZ (R 0 0)), .int (iZ z), .int (iZ (R 0 2))])) = wRX y a (uc R 0 (zu (R 0) 1 z)) b x ln := rfl
theorem wRX_s0_2 : (wRX y a R b x ln).set 0 (a 0, .inr (0, [.ref (a 1), .ref (a 6), .ref (a 7), .ref (a 12), .ref (a 13), .ref (a 14), .int (iZ (R 0 0)), .int (iZ (R 0 1)), .int (iZ z)])) = wRX y a (uc R 0 (zu (R 0) 2 z)) b x ln := rfl
theorem wRX_s1_0 : (wRX y a R b x ln).set 1 (a 1, .inr (1, [.ref (a 2), .ref (a 3), .ref (a 4), .ref (a 5), .int (iZ z), .int (iZ (R 1 1))])) = wRX y a (uc R 1 (zu (R 1) 0 z)) b x ln := rfl
theorem wRX_s1_1 : (wRX y a R b x ln).set 1 (a 1, .inr (1, [.ref (a 2), .ref (a 3), .ref (a 4), .ref (a 5), .int (iZ (R 1 0)), .int (iZ z)])) = wRX y a (uc R 1 (zu (R 1) 1 z)) b x ln := rfl
theorem wRX_s2 : (wRX y a R b x ln).set 2 (a 2, .inl (y 0, 30, .inl (zA g))) = wRX y a (uc R 2 g) b x ln := rfl
theorem wRX_s3 : (wRX y a R b x ln).set 3 (a 3, .inl (y 0, 30, .inl (zA g))) = wRX y a (uc R 3 g) b x ln := rfl
theorem wRX_s4 : (wRX y a R b x ln).set 4 (a 4, .inl (y 0, 30, .inl (zA g))) = wRX y a (uc R 4 g) b x ln := rfl
theorem wRX_s5 : (wRX y a R b x ln).set 5 (a 5, .inl (y 0, 8, .inl (zA g))) = wRX y a (uc R 5 g) b x ln := rfl
theorem wRX_s7 : (wRX y a R b x ln).set 7 (a 7, .inl (y 0, 4, .inl (zA g))) = wRX y a (uc R 7 g) b x ln := rfl
theorem wRX_s12 : (wRX y a R b x ln).set 12 (a 12, .inl (y 0, 8, .inl (zA g))) = wRX y a (uc R 12 g) b x ln := rfl
theorem wRX_s13 : (wRX y a R b x ln).set 13 (a 13, .inl (y 0, 30, .inl (zA g))) = wRX y a (uc R 13 g) b x ln := rfl
theorem wRX_s14 : (wRX y a R b x ln).set 14 (a 14, .inl (y 0, 30, .inl (zA g))) = wRX y a (uc R 14 g) b x ln := rfl
theorem wRX_15 : (wRX y a R b x ln)[15]? = some (b 0, .inr (2, [.ref (b 1), .int (iZ ln)])) := rfl
theorem wRX_16 : (wRX y a R b x ln)[16]? = some (b 1, .inl (y 0, 90, .inl (zA x))) := rfl
end WX
theorem kindBy_m {c : Int} : kindBy c = -1 ↔ (c ≠ 46 ∧ c ≠ 108 ∧ c ≠ 98) := by unfold kindBy; split <;> (try split) <;> (try split) <;> omega
