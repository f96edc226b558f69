/-! Calls of a train's methods inside a ride; the relation behind each -/
section ZT
variable {p : Program} {l : Launch} {e : Env} {R : Room} {s : State} {m : MethodId} {args : Array Value} {below : List Frame} {meth : Method} {c : Code} {nL k n : Nat} {Q : State → Prop} {cc : ByteArray} {pc : Nat} {lv : List (Nat × Value)} {rest : List Value} {D : va_G} {A : Nat → Prop}
theorem z_callT {y0 : Nat → ClassId} {ad : Nat → Nat} {N : Nat → Int → Int} {t : Nat} {nv : Int → Int} {y : MethodName} {bytes : ByteArray} {maxL index nA : Nat} {ret : Option FieldType} {W1 : List Cond} {rm : Room} {Ts : List Cond} {own : String} {As : List Value} {stk : List Value} (ht : t < 4) (F : CallFix p m c cc nL s args Ts own) (hK : va_K D vwCl (zT y0) s) (hA : ∀ q, s.heap.size ≤ q → A q)
    (hM : ∀ sz, Met l y W1 rm (zPw D vwCl (zT y0) (wT (ad (8 + t)) (N (8 + t))) sz (.ref (ad (8 + t)) :: As)) (va_Qv (fun _ : Unit => True) (zB D vwCl (zT y0) (wT (ad (8 + t)) (N (8 + t))) sz (fun _ => wT (ad (8 + t)) nv)) (va_A (wT (ad (8 + t)) (N (8 + t))) sz)) 0 0 (va_A (wT (ad (8 + t)) (N (8 + t))) sz))
    (cw : CallW R s args own RX3 index y bytes maxL ret W1 rm 0 0 nA) (hn : As.length = nA) (hstk : stk = As.reverse ++ .ref (ad (8 + t)) :: rest) (hW : (rest.map fun v => v.category).sum ≤ 8) (hkn : k ≤ R.cells ∧ n ≤ R.slots) (hdg : decode cc pc = .ok (.invokevirtual index, 3))
    (K : Gz p l e R s m args below meth c nL k n Q (Zw D vwCl A s (wR y0 ad (uc N (8 + t) nv))) (pc + 3) lv rest) : Gz p l e R s m args below meth c nL k n Q (Zw D vwCl A s (wR y0 ad N)) pc lv stk := by
  obtain ⟨wa, wb, hsp⟩ := wR_split (y := y0) (a := ad) (R := N) ht
  have h0 := hsp (N (8 + t))
  rw [uc_id] at h0
  exact z_callV (wa := wa) (wb := wb) F hK hA hM cw h0 (8 + t) (wR_t ht) rfl rfl hn hstk hW hkn hdg (fun u _ => by rw [← hsp]; exact K)
end ZT
theorem zu_at (v : Int → Int) (w x k : Int) : zu v w x k = if k = w then x else v k := rfl
theorem k8 {k : Int} (h0 : 0 ≤ k) (h1 : k < 8) : k = 0 ∨ k = 1 ∨ k = 2 ∨ k = 3 ∨ k = 4 ∨ k = 5 ∨ k = 6 ∨ k = 7 := by omega
theorem put_row (f : Int → Int) (t w k v : Int) : put f t w v (79 + 8 * t + k) = if k = w then v else f (79 + 8 * t + k) := by
  by_cases q : k = w
  · rw [if_pos q, q, put_s]
  · rw [if_neg q, put_n (by omega)]
theorem rel_put {f : Int → Int} {R : Nat → Int → Int} {t : Nat} {w v : Int} (h : Rel f R) (hW : Wf f) (ht : (t : Int) < f 2) (hw : 0 ≤ w ∧ w < 8) : Rel (put f (t : Int) w v) (uc R (8 + t) (zu (R (8 + t)) w v)) := by
  refine rel_train h hW ht (fun i hi => put_n (by omega)) (fun k k0 k1 => ?_)
  rw [put_row, zu_at, h.2.2.2.2.1 t ht k k0 k1]
theorem rel_lie {f : Int → Int} {R : Nat → Int → Int} {t : Nat} (h : Rel f R) (hW : Wf f) (ht : (t : Int) < f 2) : Rel (lies f (t : Int)) (uc R (8 + t) (zu (zu (zu (R (8 + t)) 1 0) 2 0) 4 2)) := by
  refine rel_train h hW ht (fun i hi => by unfold lies; rw [put_n (by omega), put_n (by omega), put_n (by omega)]) (fun k k0 k1 => ?_)
  have e := h.2.2.2.2.1 t ht k k0 k1
  unfold lies
  simp only [put_row, zu_at, e]
  rcases k8 k0 k1 with rfl | rfl | rfl | rfl | rfl | rfl | rfl | rfl <;> simp
theorem rel_stand {f : Int → Int} {R : Nat → Int → Int} {t : Nat} (h : Rel f R) (hW : Wf f) (ht : (t : Int) < f 2) : Rel (stands f (t : Int)) (uc R (8 + t) (zu (zu (zu (zu (zu (R (8 + t)) 0 (R (8 + t) 0)) 1 0) 2 0) 4 1) 5 0)) := by
  refine rel_train h hW ht (fun i hi => by unfold stands; rw [put_n (by omega), put_n (by omega), put_n (by omega), put_n (by omega)]) (fun k k0 k1 => ?_)
  have e := h.2.2.2.2.1 t ht k k0 k1
  have e0 := h.2.2.2.2.1 t ht 0 (by omega) (by omega)
  unfold stands
  simp only [put_row, zu_at, e, e0]
  rcases k8 k0 k1 with rfl | rfl | rfl | rfl | rfl | rfl | rfl | rfl <;> simp
theorem rel_start {f : Int → Int} {R : Nat → Int → Int} {t : Nat} {x : Int} (h : Rel f R) (hW : Wf f) (ht : (t : Int) < f 2) : Rel (runs (put f (t : Int) 5 x) (t : Int)) (uc R (8 + t) (zu (zu (zu (zu (R (8 + t)) 1 25) 2 0) 4 0) 5 0)) := by
  refine rel_train h hW ht (fun i hi => by unfold runs; rw [put_n (by omega), put_n (by omega), put_n (by omega), put_n (by omega), put_n (by omega)]) (fun k k0 k1 => ?_)
  have e := h.2.2.2.2.1 t ht k k0 k1
  unfold runs
  simp only [put_row, zu_at, e]
  rcases k8 k0 k1 with rfl | rfl | rfl | rfl | rfl | rfl | rfl | rfl <;> simp
theorem rel_came {f : Int → Int} {R : Nat → Int → Int} {t : Nat} {sq : Int} (h : Rel f R) (hW : Wf f) (ht : (t : Int) < f 2) : Rel (came f (t : Int) sq) (uc R (8 + t) (zu (zu (zu (R (8 + t)) 0 (after f (f (79 + 8 * (t : Int) + 0)))) 1 sq) 6 (R (8 + t) 6 + 1))) := by
  refine rel_train h hW ht (fun i hi => by unfold came; rw [put_n (by omega), put_n (by omega), put_n (by omega)]) (fun k k0 k1 => ?_)
  have e := h.2.2.2.2.1 t ht k k0 k1
  have e6 := h.2.2.2.2.1 t ht 6 (by omega) (by omega)
  unfold came
  simp only [put_row, zu_at, e, e6]
  rcases k8 k0 k1 with rfl | rfl | rfl | rfl | rfl | rfl | rfl | rfl <;> simp
theorem rel_warm {f : Int → Int} {R : Nat → Int → Int} {t : Nat} {air : Int} (h : Rel f R) (hW : Wf f) (ht : (t : Int) < f 2) (ha : air = f 7) : Rel (warms f (t : Int)) (uc R (8 + t) (zu (R (8 + t)) 3 (near (cap100 (R (8 + t) 3 + (if R (8 + t) 4 = 0 then root (R (8 + t) 1) / 10 else 0))) air))) := by
  have e3 := h.2.2.2.2.1 t ht 3 (by omega) (by omega)
  have e4 := h.2.2.2.2.1 t ht 4 (by omega) (by omega)
  have e1 := h.2.2.2.2.1 t ht 1 (by omega) (by omega)
  rw [e3, e4, e1, ha]
  exact rel_put h hW ht (by omega)
theorem rel_held {f : Int → Int} {R : Nat → Int → Int} {b v : Int} (h : Rel f R) (hW : Wf f) (hb : 0 ≤ b ∧ b < 8) : Rel (zu f (71 + b) v) (uc R 12 (zu (R 12) b v)) := by
  obtain ⟨⟨a1, a2, a3, a4, a5⟩, bb, c, ⟨d1, d2, d3, d4⟩, e, l⟩ := h
  have w0 := hW.1; have w1 := hW.2.1; have w2 := hW.2.2.1
  have o : ∀ i : Int, i ≠ 71 + b → zu f (71 + b) v i = f i := fun i hi => zu_n hi
  refine ⟨⟨?_, ?_, ?_, ?_, ?_⟩, fun q q0 q1 => ?_, fun q q0 q1 => ?_, ⟨?_, ?_, ?_, ?_⟩, fun u hu k k0 k1 => ?_, fun i i0 i1 => ?_⟩
  · rw [o 0 (by omega)]; exact a1
  · rw [o 1 (by omega)]; exact a2
  · rw [o 2 (by omega)]; exact a3
  · rw [o 3 (by omega)]; exact a4
  · rw [o 8 (by omega)]; exact a5
  · rw [o 0 (by omega)] at q1
    rw [o _ (by omega), o _ (by omega), blockAt_congr (f := f) (by omega) (o 1 (by omega)) (fun i _ _ => o i (by omega))]
    exact bb q q0 q1
  · rw [o 1 (by omega)] at q1
    rw [brakeOf_congr (f := f) (fun i _ _ => o i (by omega)), uc_s, uc_n (by omega)]
    refine ⟨(c q q0 q1).1, ?_⟩
    by_cases z : q = b
    · rw [z, zu_s, zu_s]
    · rw [zu_n z, zu_n (by omega)]; exact (c q q0 q1).2
  · rw [o 4 (by omega)]; exact d1
  · rw [o 5 (by omega)]; exact d2
  · rw [o 6 (by omega)]; exact d3
  · rw [o 7 (by omega)]; exact d4
  · rw [o 2 (by omega)] at hu
    rw [uc_n (by have := hW.2.2.1; omega), o _ (by omega)]; exact e u hu k k0 k1
  · rw [o 10 (by omega)] at i1
    have h10 : f 10 = f 10 := rfl
    rw [o 8 (by omega), o 10 (by omega), uc_n (by omega), uc_n (by omega), o _ (by omega), o _ (by omega)]
    exact l i i0 i1
theorem rel_tick3 {f : Int → Int} {R : Nat → Int → Int} {v : Int} (h : Rel f R) (hW : Wf f) : Rel (zu f 3 v) (uc R 0 (zu (R 0) 1 v)) := by
  obtain ⟨⟨a1, a2, a3, a4, a5⟩, bb, c, ⟨d1, d2, d3, d4⟩, e, l⟩ := h
  have w0 := hW.1; have w1 := hW.2.1; have w2 := hW.2.2.1
  have o : ∀ i : Int, i ≠ 3 → zu f 3 v i = f i := fun i hi => zu_n hi
  refine ⟨⟨?_, ?_, ?_, ?_, ?_⟩, fun q q0 q1 => ?_, fun q q0 q1 => ?_, ⟨?_, ?_, ?_, ?_⟩, fun u hu k k0 k1 => ?_, fun i i0 i1 => ?_⟩
  · rw [o 0 (by omega)]; exact a1
  · rw [o 1 (by omega)]; exact a2
  · rw [o 2 (by omega)]; exact a3
  · rw [zu_s]; rfl
  · rw [o 8 (by omega)]; exact a5
  · rw [o 0 (by omega)] at q1
    rw [o _ (by omega), o _ (by omega), blockAt_congr (f := f) (by omega) (o 1 (by omega)) (fun i _ _ => o i (by omega))]
    exact bb q q0 q1
  · rw [o 1 (by omega)] at q1
    rw [brakeOf_congr (f := f) (fun i _ _ => o i (by omega)), o _ (by omega)]
    exact c q q0 q1
  · rw [o 4 (by omega)]; exact d1
  · rw [o 5 (by omega)]; exact d2
  · rw [o 6 (by omega)]; exact d3
  · rw [o 7 (by omega)]; exact d4
  · rw [o 2 (by omega)] at hu
    rw [uc_n (by omega), o _ (by omega)]; exact e u hu k k0 k1
  · rw [o 10 (by omega)] at i1
    rw [o 8 (by omega), o 10 (by omega), o _ (by omega), o _ (by omega)]
    exact l i i0 i1
theorem holds_put5 {f : Int → Int} {t v s : Int} (hW : Wf f) (ht : 0 ≤ t ∧ t < 4) : holds (put f t 5 v) t s = holds f t s := by
  have w0 := hW.1
  have k0 := (hW.2.2.2.2.2.2 t ht.1 ht.2).1
  have o : ∀ i : Int, i ≠ 79 + 8 * t + 5 → put f t 5 v i = f i := fun i hi => put_n hi
  have bl : blockAt (put f t 5 v) (put f t 5 v (79 + 8 * t + 0)) = blockAt f (f (79 + 8 * t + 0)) := by rw [o _ (by omega), blockAt_put (by omega) (by omega) (by omega)]
  unfold holds
  rw [bl, show nextB (put f t 5 v) (blockAt f (f (79 + 8 * t + 0))) = nextB f (blockAt f (f (79 + 8 * t + 0))) from by unfold nextB; rw [o 1 (by omega)]]
  rw [isFree_congr hW (o 1 (by omega)) (o 2 (by omega)) (fun i _ _ => o i (by omega)) (fun u _ _ => ⟨o _ (by omega), o _ (by omega)⟩), o 5 (by omega)]
  rw [show isGap (put f t 5 v) = isGap f from by unfold isGap; rw [o 9 (by omega), o 6 (by omega), o 3 (by omega)]]
theorem waits_no {f : Int → Int} {t : Int} (hW : Wf f) (ht : 0 ≤ t ∧ t < 4) (hm : f (79 + 8 * t + 4) = 1) (h : ¬ whyOf f t = 5) : waits f t = put f t 5 (f (79 + 8 * t + 5) + 1) := by
  unfold whyOf at h
  rw [if_neg (by omega), if_neg (by omega)] at h
  unfold waits
  rw [holds_put5 hW ht, if_neg h]
theorem waits_go {f : Int → Int} {t : Int} (hW : Wf f) (ht : 0 ≤ t ∧ t < 4) (hm : f (79 + 8 * t + 4) = 1) (h10 : 0 ≤ f 10 ∧ f 10 ≤ 30) (h : whyOf f t = 5) : waits f t = if blockAt f (f (79 + 8 * t + 0)) = 0 then dispatches (runs (put f t 5 (f (79 + 8 * t + 5) + 1)) t) t else runs (put f t 5 (f (79 + 8 * t + 5) + 1)) t := by
  unfold whyOf at h
  rw [if_neg (by omega), if_neg (by omega)] at h
  unfold waits
  rw [holds_put5 hW ht, if_pos h]
  by_cases q : blockAt f (f (79 + 8 * t + 0)) = 0
  · rw [if_pos q, if_pos q, runs_disp ht (by rw [put_n (by omega)]; exact h10)]
  · rw [if_neg q, if_neg q]
theorem comes_eq {f : Int → Int} {t : Int} (hW : Wf f) (ht : 0 ≤ t ∧ t < 4) : comes f t = zu (put (stands f t) t 7 (f (79 + 8 * t + 7) + (if blockAt f (f (79 + 8 * t + 0)) = 0 then 1 else 0))) (71 + blockAt f (f (79 + 8 * t + 0))) (f (71 + blockAt f (f (79 + 8 * t + 0))) + (if isFree (stands f t) (nextB f (blockAt f (f (79 + 8 * t + 0)))) = true then 0 else 1)) := by
  have hb := blockAt_rng hW (hW.2.2.2.2.2.2 t ht.1 ht.2).1
  have w1 := hW.2.1
  unfold comes
  rw [stands_2 (i := 71 + blockAt f (f (79 + 8 * t + 0))) ht.1 (by omega)]
  exact zu_comm (by omega)
