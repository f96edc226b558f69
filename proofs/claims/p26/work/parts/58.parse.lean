/-! The coaster's text read into the ride now -/
section ZPA
variable {p : Program} {l : Launch} {e : Env} {R : Room} {s : State} {m : MethodId} {args : Array Value} {below : List Frame} {meth : Method} {c : Code} {nL k n : Nat} {Q : State → Prop} {cc : ByteArray} {pc : Nat} {lv : List (Nat × Value)} {rest : List Value} {D : va_G} {A : Nat → Prop}
theorem wB_rx {y : Nat → ClassId} {o : Nat → Nat} {a : Nat → Nat → Nat} {S : Nat → Nat → Int → Int} {tb : Nat → Nat} {x : Int → Int} {ln sc : Int} {q : Nat → Option Nat} : (wBq y o a S tb x ln sc q p6).Perm (wO y o a tb q sc ++ wRX y (a 0) (S 0) tb x ln ++ wRs y a S [1, 2, 3, 4, 5]) := by
  have e1 : wBq y o a S tb x ln sc q p6 = wO y o a tb q sc ++ (wX y tb x ln ++ wR y (a 0) (S 0)) ++ wRs y a S [1, 2, 3, 4, 5] := by
    show (wO y o a tb q sc ++ wX y tb x ln) ++ wRs y a S (0 :: [1, 2, 3, 4, 5]) = _
    unfold wRs
    rw [List.flatMap_cons]
    simp only [List.append_assoc]
  rw [e1]
  exact (List.perm_append_comm.append_left _).append_right _
theorem z_begin {y : Nat → ClassId} {o : Nat → Nat} {a : Nat → Nat → Nat} {S : Nat → Nat → Int → Int} {tb : Nat → Nat} {x g : Int → Int} {ln sc : Int} {q : Nat → Option Nat} {index : Nat} {bytes : ByteArray} {maxL : Nat} {ret : Option FieldType} {W1 : List Cond} {rm : Room} {Ts : List Cond} {own : String} {ym : MethodName}
    (F : CallFix p m c cc nL s args Ts own) (hK : va_K D vwCl (zT y) s) (hA : ∀ q, s.heap.size ≤ q → A q)
    (hM : ∀ sz, Met l ym W1 rm (zPw D vwCl (zT y) (wRX y (a 0) (S 0) tb x ln) sz [.ref (a 0 0), .ref (tb 0)]) (va_Qv (fun R' : Nat → Int → Int => Rel g R') (zB D vwCl (zT y) (wRX y (a 0) (S 0) tb x ln) sz (fun R' : Nat → Int → Int => wRX y (a 0) R' tb x ln)) (va_A (wRX y (a 0) (S 0) tb x ln) sz)) 0 0 (va_A (wRX y (a 0) (S 0) tb x ln) sz))
    (cw : CallW R s args own RX0 index ym bytes maxL ret W1 rm 0 0 1) (hW : (rest.map fun v => v.category).sum ≤ 8) (hkn : k ≤ R.cells ∧ n ≤ R.slots) (hdg : decode cc pc = .ok (.invokevirtual index, 3))
    (K : ∀ R' : Nat → Int → Int, Rel g R' → Gz p l e R s m args below meth c nL k n Q (Zw D vwCl A s (wBq y o a (uR S 0 R') tb x ln sc q p6)) (pc + 3) lv rest) : Gz p l e R s m args below meth c nL k n Q (Zw D vwCl A s (wBq y o a S tb x ln sc q p6)) pc lv (.ref (tb 0) :: .ref (a 0 0) :: rest) := by
  refine z_perm wB_rx ?_
  refine z_callV (wa := wO y o a tb q sc) (wc := wRX y (a 0) (S 0) tb x ln) (wb := wRs y a S [1, 2, 3, 4, 5]) (As := [.ref (tb 0)]) (rest := rest) F hK hA hM cw rfl 2 rfl rfl rfl rfl rfl hW hkn hdg (fun R' hR => ?_)
  have e2 : wRs y a S [1, 2, 3, 4, 5] = wRs y a (uR S 0 R') [1, 2, 3, 4, 5] := (wRs_congr (fun u hu => ⟨rfl, uR_n (by rintro rfl; exact absurd hu (by decide))⟩)).symm
  rw [e2]
  have e3 : wRX y (a 0) R' tb x ln = wRX y (a 0) (uR S 0 R' 0) tb x ln := by rw [uR_s]
  rw [e3]
  exact z_perm wB_rx.symm (K R' hR)
end ZPA
