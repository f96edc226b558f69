/-! The coaster's text -/
theorem wB_tx {y : Nat → ClassId} {o : Nat → Nat} {a : Nat → Nat → Nat} {S : Nat → Nat → Int → Int} {tb : Nat → Nat} {x : Int → Int} {ln sc : Int} {q : Nat → Option Nat} : ∀ z ∈ wX y tb x ln, z ∈ wBq y o a S tb x ln sc q p6 := fun _ hz => List.mem_append_left _ (List.mem_append_right _ hz)
section ZT2
variable {p : Program} {l : Launch} {e : Env} {R : Room} {s : State} {m : MethodId} {args : Array Value} {below : List Frame} {meth : Method} {c : Code} {nL k n : Nat} {Q : State → Prop} {cc : ByteArray} {pc : Nat} {lv : List (Nat × Value)} {rest : List Value} {D : va_G} {A : Nat → Prop}
theorem z_textV {y : Nat → ClassId} {o : Nat → Nat} {a : Nat → Nat → Nat} {S : Nat → Nat → Int → Int} {tb : Nat → Nat} {x x' : Int → Int} {ln ln' sc : Int} {q : Nat → Option Nat} {index nA : Nat} {bytes : ByteArray} {maxL : Nat} {ret : Option FieldType} {W1 : List Cond} {rm : Room} {Ts : List Cond} {own : String} {ym : MethodName} {As : List Value} {stk : List Value}
    (F : CallFix p m c cc nL s args Ts own) (hK : va_K D vwCl (zT y) s) (hA : ∀ q, s.heap.size ≤ q → A q)
    (hM : ∀ sz, Met l ym W1 rm (zPw D vwCl (zT y) (wX y tb x ln) sz (.ref (tb 0) :: As)) (va_Qv (fun _ : Unit => True) (zB D vwCl (zT y) (wX y tb x ln) sz (fun _ => wX y tb x' ln')) (va_A (wX y tb x ln) sz)) 0 0 (va_A (wX y tb x ln) sz))
    (cw : CallW R s args own RX2 index ym bytes maxL ret W1 rm 0 0 nA) (hn : As.length = nA) (hstk : stk = As.reverse ++ .ref (tb 0) :: rest) (hW : (rest.map fun v => v.category).sum ≤ 8) (hkn : k ≤ R.cells ∧ n ≤ R.slots) (hdg : decode cc pc = .ok (.invokevirtual index, 3))
    (K : Gz p l e R s m args below meth c nL k n Q (Zw D vwCl A s (wBq y o a S tb x' ln' sc q p6)) (pc + 3) lv rest) : Gz p l e R s m args below meth c nL k n Q (Zw D vwCl A s (wBq y o a S tb x ln sc q p6)) pc lv stk :=
  z_callV (wa := wO y o a tb q sc) (wc := wX y tb x ln) (wb := wRs y a S p6) (As := As) (rest := rest) F hK hA hM cw rfl 2 wB_2 rfl rfl hn hstk hW hkn hdg (fun _ _ => K)
end ZT2
