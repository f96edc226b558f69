/-! The coaster: its object, the row of saved rides, the text, and six rides (0 now, 1 trial, 2 to 5 saved) -/
def wRs (y : Nat → ClassId) (a : Nat → Nat → Nat) (R : Nat → Nat → Int → Int) (p : List Nat) : va_W := p.flatMap (fun j => wR y (a j) (R j))
def wO (y : Nat → ClassId) (o : Nat → Nat) (a : Nat → Nat → Nat) (tb : Nat → Nat) (q : Nat → Option Nat) (sc : Int) : va_W :=
  [(o 0, .inr (4, [.ref (a 0 0), .ref (a 1 0), .ref (o 1), .ref (tb 0), .int (iZ sc)])), (o 1, .inl (y 2, 4, .inr (.inr (.inr (.inr q)))))]
def sav (a : Nat → Nat → Nat) : Nat → Option Nat := fun j => some (a (2 + j) 0)
def wBq (y : Nat → ClassId) (o : Nat → Nat) (a : Nat → Nat → Nat) (R : Nat → Nat → Int → Int) (tb : Nat → Nat) (x : Int → Int) (ln sc : Int) (q : Nat → Option Nat) (p : List Nat) : va_W := (wO y o a tb q sc ++ wX y tb x ln) ++ wRs y a R p
def p6 : List Nat := [0, 1, 2, 3, 4, 5]
def wB (y : Nat → ClassId) (o : Nat → Nat) (a : Nat → Nat → Nat) (R : Nat → Nat → Int → Int) (tb : Nat → Nat) (x : Int → Int) (ln sc : Int) : va_W := wBq y o a R tb x ln sc (sav a) p6
/-- one ride's numbers changed -/
def uR (R : Nat → Nat → Int → Int) (j : Nat) (S : Nat → Int → Int) : Nat → Nat → Int → Int := fun i => cond (Nat.beq i j) S (R i)
theorem uR_s (R : Nat → Nat → Int → Int) (j : Nat) (S : Nat → Int → Int) : uR R j S j = S := by simp [uR]
theorem uR_n {R : Nat → Nat → Int → Int} {j i : Nat} {S : Nat → Int → Int} (h : i ≠ j) : uR R j S i = R i := by
  have : Nat.beq i j = false := by cases q : Nat.beq i j with
    | false => rfl
    | true => exact absurd (Nat.eq_of_beq_eq_true q) h
  simp [uR, this]
theorem wRs_perm {y : Nat → ClassId} {a : Nat → Nat → Nat} {R : Nat → Nat → Int → Int} {p q : List Nat} (h : p.Perm q) : (wRs y a R p).Perm (wRs y a R q) := h.flatMap_right _
theorem wBq_perm {y : Nat → ClassId} {o : Nat → Nat} {a : Nat → Nat → Nat} {R : Nat → Nat → Int → Int} {tb : Nat → Nat} {x : Int → Int} {ln sc : Int} {q : Nat → Option Nat} {p p' : List Nat} (h : p.Perm p') : (wBq y o a R tb x ln sc q p).Perm (wBq y o a R tb x ln sc q p') := (wRs_perm h).append_left _
theorem wRs_congr {y : Nat → ClassId} {a a' : Nat → Nat → Nat} {R R' : Nat → Nat → Int → Int} {p : List Nat} (h : ∀ j ∈ p, a' j = a j ∧ R' j = R j) : wRs y a' R' p = wRs y a R p := by
  unfold wRs
  induction p with
  | nil => rfl
  | cons i p ih =>
    rw [List.flatMap_cons, List.flatMap_cons, (h i (List.mem_cons_self ..)).1, (h i (List.mem_cons_self ..)).2, ih (fun j hj => h j (List.mem_cons_of_mem _ hj))]
section ZB
variable {p : Program} {l : Launch} {e : Env} {R : Room} {s : State} {m : MethodId} {args : Array Value} {below : List Frame} {meth : Method} {c : Code} {nL k n : Nat} {Q : State → Prop} {cc : ByteArray} {pc : Nat} {lv : List (Nat × Value)} {rest : List Value} {D : va_G} {A : Nat → Prop}
/-- one ride copied onto another -/
theorem z_copy {y : Nat → ClassId} {o : Nat → Nat} {a : Nat → Nat → Nat} {S : Nat → Nat → Int → Int} {tb : Nat → Nat} {x f : Int → Int} {ln sc : Int} {q : Nat → Option Nat} {ps : List Nat} {i j : Nat} {index : Nat} {bytes : ByteArray} {maxL : Nat} {ret : Option FieldType} {W1 : List Cond} {rm : Room} {Ts : List Cond} {own : String} {ym : MethodName}
    (hp : p6.Perm (i :: j :: ps)) (hij : i ≠ j) (hi : i ∉ ps) (F : CallFix p m c cc nL s args Ts own) (hK : va_K D vwCl (zT y) s) (hA : ∀ q, s.heap.size ≤ q → A q)
    (hM : ∀ sz, Met l ym W1 rm (zPw D vwCl (zT y) (wRR y (a i) (S i) (a j) (S j)) sz [.ref (a i 0), .ref (a j 0)]) (va_Qv (fun R' : Nat → Int → Int => Rel f R') (zB D vwCl (zT y) (wRR y (a i) (S i) (a j) (S j)) sz (fun R' : Nat → Int → Int => wRR y (a i) R' (a j) (S j))) (va_A (wRR y (a i) (S i) (a j) (S j)) sz)) 0 0 (va_A (wRR y (a i) (S i) (a j) (S j)) sz))
    (cw : CallW R s args own RX0 index ym bytes maxL ret W1 rm 0 0 1) (hW : (rest.map fun v => v.category).sum ≤ 8) (hkn : k ≤ R.cells ∧ n ≤ R.slots) (hdg : decode cc pc = .ok (.invokevirtual index, 3))
    (K : ∀ R' : Nat → Int → Int, Rel f R' → Gz p l e R s m args below meth c nL k n Q (Zw D vwCl A s (wBq y o a (uR S i R') tb x ln sc q p6)) (pc + 3) lv rest) : Gz p l e R s m args below meth c nL k n Q (Zw D vwCl A s (wBq y o a S tb x ln sc q p6)) pc lv (.ref (a j 0) :: .ref (a i 0) :: rest) := by
  refine z_perm (wBq_perm hp) ?_
  have e1 : wBq y o a S tb x ln sc q (i :: j :: ps) = (wO y o a tb q sc ++ wX y tb x ln) ++ wRR y (a i) (S i) (a j) (S j) ++ wRs y a S ps := by
    unfold wBq wRR wRs
    rw [List.flatMap_cons, List.flatMap_cons]
    simp only [List.append_assoc]
  rw [e1]
  refine z_callV (wa := wO y o a tb q sc ++ wX y tb x ln) (wc := wRR y (a i) (S i) (a j) (S j)) (wb := wRs y a S ps) (As := [.ref (a j 0)]) (rest := rest) F hK hA hM cw rfl 4 rfl rfl rfl rfl rfl hW hkn hdg (fun R' hR => ?_)
  have e2 : (wO y o a tb q sc ++ wX y tb x ln) ++ wRR y (a i) R' (a j) (S j) ++ wRs y a S ps = wBq y o a (uR S i R') tb x ln sc q (i :: j :: ps) := by
    unfold wBq wRR
    rw [show wRs y a S ps = wRs y a (uR S i R') ps from (wRs_congr (fun u hu => ⟨rfl, uR_n (fun z => hi (by rw [← z]; exact hu))⟩)).symm]
    unfold wRs
    rw [List.flatMap_cons, List.flatMap_cons, uR_s, uR_n (Ne.symm hij)]
    simp only [List.append_assoc]
  rw [e2]
  exact z_perm (wBq_perm hp.symm) (K R' hR)
end ZB
