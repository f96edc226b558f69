/-! One ride of the six -/
section WB
variable {y : Nat → ClassId} {o : Nat → Nat} {a : Nat → Nat → Nat} {S : Nat → Nat → Int → Int} {tb : Nat → Nat} {x : Int → Int} {ln sc : Int} {q : Nat → Option Nat} {i j : Nat}
theorem wRs_len (p : List Nat) : (wRs y a S p).length = 15 * p.length := by
  unfold wRs
  induction p with
  | nil => rfl
  | cons i p ih => rw [List.flatMap_cons, List.length_append, wR_len, ih, List.length_cons]; omega
theorem wB_split (hj : j < 6) : wBq y o a S tb x ln sc q p6 = ((wO y o a tb q sc ++ wX y tb x ln) ++ wRs y a S (p6.take j)) ++ (wR y (a j) (S j) ++ wRs y a S (p6.drop (j + 1))) := by
  have e : p6 = p6.take j ++ j :: p6.drop (j + 1) := by
    rcases (show j = 0 ∨ j = 1 ∨ j = 2 ∨ j = 3 ∨ j = 4 ∨ j = 5 by omega) with rfl | rfl | rfl | rfl | rfl | rfl <;> rfl
  unfold wBq wRs
  rw [show List.flatMap (fun j => wR y (a j) (S j)) p6 = List.flatMap (fun j => wR y (a j) (S j)) (p6.take j ++ j :: p6.drop (j + 1)) from by rw [← e], List.flatMap_append, List.flatMap_cons]
  simp only [List.append_assoc]
theorem wB_pre (hj : j < 6) : ((wO y o a tb q sc ++ wX y tb x ln) ++ wRs y a S (p6.take j)).length = 4 + 15 * j := by
  rw [List.length_append, wRs_len, List.length_append]
  rcases (show j = 0 ∨ j = 1 ∨ j = 2 ∨ j = 3 ∨ j = 4 ∨ j = 5 by omega) with rfl | rfl | rfl | rfl | rfl | rfl <;> rfl
theorem wB_get (j i : Nat) (hj : j < 6) (hi : i < 15) : (wBq y o a S tb x ln sc q p6)[4 + 15 * j + i]? = (wR y (a j) (S j))[i]? := by
  rw [wB_split hj, List.getElem?_append_right (by rw [wB_pre hj]; omega), wB_pre hj, show 4 + 15 * j + i - (4 + 15 * j) = i by omega, List.getElem?_append_left (by rw [wR_len]; omega)]
theorem wB_in (j : Nat) (hj : j < 6) : ∀ z ∈ wR y (a j) (S j), z ∈ wBq y o a S tb x ln sc q p6 := by
  intro z hz
  rw [wB_split hj]
  exact List.mem_append_right _ (List.mem_append_left _ hz)
theorem wB_up (hj : j < 6) (S' : Nat → Int → Int) : wBq y o a (uR S j S') tb x ln sc q p6 = ((wO y o a tb q sc ++ wX y tb x ln) ++ wRs y a S (p6.take j)) ++ (wR y (a j) S' ++ wRs y a S (p6.drop (j + 1))) := by
  have n1 : j ∉ p6.take j := by
    rcases (show j = 0 ∨ j = 1 ∨ j = 2 ∨ j = 3 ∨ j = 4 ∨ j = 5 by omega) with rfl | rfl | rfl | rfl | rfl | rfl <;> decide
  have n2 : j ∉ p6.drop (j + 1) := by
    rcases (show j = 0 ∨ j = 1 ∨ j = 2 ∨ j = 3 ∨ j = 4 ∨ j = 5 by omega) with rfl | rfl | rfl | rfl | rfl | rfl <;> decide
  rw [wB_split hj, uR_s, wRs_congr (R := S) (R' := uR S j S') (fun u hu => ⟨rfl, uR_n (fun z => n1 (by subst z; exact hu))⟩), wRs_congr (R := S) (R' := uR S j S') (p := p6.drop (j + 1)) (fun u hu => ⟨rfl, uR_n (fun z => n2 (by subst z; exact hu))⟩)]
theorem wB_set (j i : Nat) (hj : j < 6) (hi : i < 15) {v : Nat × va_E} {S' : Nat → Int → Int} (h : (wR y (a j) (S j)).set i v = wR y (a j) S') : (wBq y o a S tb x ln sc q p6).set (4 + 15 * j + i) v = wBq y o a (uR S j S') tb x ln sc q p6 := by
  rw [wB_split hj, wB_up hj, List.set_append_right _ _ (by rw [wB_pre hj]; omega), wB_pre hj, show 4 + 15 * j + i - (4 + 15 * j) = i by omega, List.set_append_left _ _ (by rw [wR_len]; omega), h]
theorem wB_0 : (wBq y o a S tb x ln sc q p6)[0]? = some (o 0, .inr (4, [.ref (a 0 0), .ref (a 1 0), .ref (o 1), .ref (tb 0), .int (iZ sc)])) := rfl
theorem wB_1 : (wBq y o a S tb x ln sc q p6)[1]? = some (o 1, .inl (y 2, 4, .inr (.inr (.inr (.inr q))))) := rfl
theorem wB_2 : (wBq y o a S tb x ln sc q p6)[2]? = some (tb 0, .inr (2, [.ref (tb 1), .int (iZ ln)])) := rfl
theorem wB_3 : (wBq y o a S tb x ln sc q p6)[3]? = some (tb 1, .inl (y 0, 90, .inl (zA x))) := rfl
theorem wB_s0 {z : Int} : (wBq y o a S tb x ln sc q p6).set 0 (o 0, .inr (4, [.ref (a 0 0), .ref (a 1 0), .ref (o 1), .ref (tb 0), .int (iZ z)])) = wBq y o a S tb x ln z q p6 := rfl
end WB
section ZB2
variable {p : Program} {l : Launch} {e : Env} {R : Room} {s : State} {m : MethodId} {args : Array Value} {below : List Frame} {meth : Method} {c : Code} {nL k n : Nat} {Q : State → Prop} {cc : ByteArray} {pc : Nat} {lv : List (Nat × Value)} {rest : List Value} {D : va_G} {A : Nat → Prop}
/-- a ride's method that writes -/
theorem z_rideV {y : Nat → ClassId} {o : Nat → Nat} {a : Nat → Nat → Nat} {S : Nat → Nat → Int → Int} {tb : Nat → Nat} {x : Int → Int} {ln sc : Int} {q : Nat → Option Nat} {j : Nat} {index nA : Nat} {bytes : ByteArray} {maxL : Nat} {ret : Option FieldType} {W1 : List Cond} {rm : Room} {Ts : List Cond} {own : String} {ym : MethodName} {As : List Value} {stk : List Value} {post : (Nat → Int → Int) → Prop}
    (hj : j < 6) (F : CallFix p m c cc nL s args Ts own) (hK : va_K D vwCl (zT y) s) (hA : ∀ q, s.heap.size ≤ q → A q)
    (hM : ∀ sz, Met l ym W1 rm (zPw D vwCl (zT y) (wR y (a j) (S j)) sz (.ref (a j 0) :: As)) (va_Qv post (zB D vwCl (zT y) (wR y (a j) (S j)) sz (fun R' : Nat → Int → Int => wR y (a j) R')) (va_A (wR y (a j) (S j)) sz)) 0 0 (va_A (wR y (a j) (S j)) sz))
    (cw : CallW R s args own RX0 index ym bytes maxL ret W1 rm 0 0 nA) (hn : As.length = nA) (hstk : stk = As.reverse ++ .ref (a j 0) :: rest) (hW : (rest.map fun v => v.category).sum ≤ 8) (hkn : k ≤ R.cells ∧ n ≤ R.slots) (hdg : decode cc pc = .ok (.invokevirtual index, 3))
    (K : ∀ R' : Nat → Int → Int, post R' → Gz p l e R s m args below meth c nL k n Q (Zw D vwCl A s (wBq y o a (uR S j R') tb x ln sc q p6)) (pc + 3) lv rest) : Gz p l e R s m args below meth c nL k n Q (Zw D vwCl A s (wBq y o a S tb x ln sc q p6)) pc lv stk := by
  have h0 : (wBq y o a S tb x ln sc q p6)[4 + 15 * j + 0]? = (wR y (a j) (S j))[0]? := wB_get j 0 hj (by omega)
  have e1 : wBq y o a S tb x ln sc q p6 = ((wO y o a tb q sc ++ wX y tb x ln) ++ wRs y a S (p6.take j)) ++ wR y (a j) (S j) ++ wRs y a S (p6.drop (j + 1)) := by rw [wB_split hj, List.append_assoc _ (wR y (a j) (S j))]
  refine z_callV (wa := (wO y o a tb q sc ++ wX y tb x ln) ++ wRs y a S (p6.take j)) (wc := wR y (a j) (S j)) (wb := wRs y a S (p6.drop (j + 1))) (As := As) (rest := rest) F hK hA hM cw e1 (4 + 15 * j + 0) h0 rfl rfl hn hstk hW hkn hdg (fun R' hR => ?_)
  have e2 : ((wO y o a tb q sc ++ wX y tb x ln) ++ wRs y a S (p6.take j)) ++ wR y (a j) R' ++ wRs y a S (p6.drop (j + 1)) = wBq y o a (uR S j R') tb x ln sc q p6 := by rw [wB_up hj, List.append_assoc _ (wR y (a j) R')]
  rw [e2]
  exact K R' hR
end ZB2
