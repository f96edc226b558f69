/-! A train's method inside a ride of the coaster -/
section ZT3
variable {p : Program} {l : Launch} {e : Env} {R : Room} {s : State} {m : MethodId} {args : Array Value} {below : List Frame} {meth : Method} {c : Code} {nL k n : Nat} {Q : State → Prop} {cc : ByteArray} {pc : Nat} {lv : List (Nat × Value)} {rest : List Value} {D : va_G} {A : Nat → Prop}
theorem z_callTB {y : Nat → ClassId} {o : Nat → Nat} {a : Nat → Nat → Nat} {S : Nat → Nat → Int → Int} {tb : Nat → Nat} {x : Int → Int} {ln sc : Int} {q : Nat → Option Nat} {j t : Nat} {nv : Int → Int} {index nA : Nat} {bytes : ByteArray} {maxL : Nat} {ret : Option FieldType} {W1 : List Cond} {rm : Room} {Ts : List Cond} {own : String} {ym : MethodName} {As : List Value} {stk : List Value}
    (hj : j < 6) (ht : t < 4) (F : CallFix p m c cc nL s args Ts own) (hK : va_K D vwCl (zT y) s) (hA : ∀ q, s.heap.size ≤ q → A q)
    (hM : ∀ sz, Met l ym W1 rm (zPw D vwCl (zT y) (wT (a j (8 + t)) (S j (8 + t))) sz (.ref (a j (8 + t)) :: As)) (va_Qv (fun _ : Unit => True) (zB D vwCl (zT y) (wT (a j (8 + t)) (S j (8 + t))) sz (fun _ => wT (a j (8 + t)) nv)) (va_A (wT (a j (8 + t)) (S j (8 + t))) sz)) 0 0 (va_A (wT (a j (8 + t)) (S j (8 + t))) sz))
    (cw : CallW R s args own RX3 index ym bytes maxL ret W1 rm 0 0 nA) (hn : As.length = nA) (hstk : stk = As.reverse ++ .ref (a j (8 + t)) :: rest) (hW : (rest.map fun v => v.category).sum ≤ 8) (hkn : k ≤ R.cells ∧ n ≤ R.slots) (hdg : decode cc pc = .ok (.invokevirtual index, 3))
    (K : Gz p l e R s m args below meth c nL k n Q (Zw D vwCl A s (wBq y o a (uR S j (uc (S j) (8 + t) nv)) tb x ln sc q p6)) (pc + 3) lv rest) : Gz p l e R s m args below meth c nL k n Q (Zw D vwCl A s (wBq y o a S tb x ln sc q p6)) pc lv stk := by
  obtain ⟨wa, wb, hsp⟩ := wR_split (y := y) (a := a j) (R := S j) ht
  have h0 := hsp (S j (8 + t))
  rw [uc_id] at h0
  have e1 : wBq y o a S tb x ln sc q p6 = (((wO y o a tb q sc ++ wX y tb x ln) ++ wRs y a S (p6.take j)) ++ wa) ++ wT (a j (8 + t)) (S j (8 + t)) ++ (wb ++ wRs y a S (p6.drop (j + 1))) := by
    rw [wB_split hj, h0]
    simp only [List.append_assoc]
  refine z_callV (wa := ((wO y o a tb q sc ++ wX y tb x ln) ++ wRs y a S (p6.take j)) ++ wa) (wb := wb ++ wRs y a S (p6.drop (j + 1))) (As := As) (rest := rest) F hK hA hM cw e1 (4 + 15 * j + (8 + t)) ((wB_get j (8 + t) hj (by omega)).trans (wR_t ht)) rfl rfl hn hstk hW hkn hdg (fun u _ => ?_)
  have e2 : (((wO y o a tb q sc ++ wX y tb x ln) ++ wRs y a S (p6.take j)) ++ wa) ++ wT (a j (8 + t)) nv ++ (wb ++ wRs y a S (p6.drop (j + 1))) = wBq y o a (uR S j (uc (S j) (8 + t) nv)) tb x ln sc q p6 := by
    rw [wB_up hj, hsp nv]
    simp only [List.append_assoc]
  rw [e2]
  exact K
end ZT3
theorem rel_res {f : Int → Int} {R : Nat → Int → Int} {t : Nat} {br : Int} (h : Rel f R) (hW : Wf f) (ht : (t : Int) < f 2) (hb : br = brakeOf f (blockAt f (f (79 + 8 * (t : Int) + 0)))) : Rel (resT f (t : Int)) (uc R (8 + t) (zu (zu (zu (zu (zu (R (8 + t)) 0 br) 1 0) 2 0) 4 1) 5 0)) := by
  subst hb
  refine rel_train h hW ht (fun i hi => by unfold resT stands; rw [put_n (by omega), put_n (by omega), put_n (by omega), put_n (by omega), put_n (by omega)]) (fun k k0 k1 => ?_)
  have e := h.2.2.2.2.1 t ht k k0 k1
  unfold resT stands
  simp only [put_row, zu_at, e]
  rcases k8 k0 k1 with rfl | rfl | rfl | rfl | rfl | rfl | rfl | rfl <;> simp
