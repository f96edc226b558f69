/-! The law's own methods: a call of the class, its answer laid into the row of one long, its throws caught -/
theorem z_headH {l : Launch} {D : va_G} {cl : List vw_C} {tys : List (ClassId × FieldType)} {ws : va_W} {sz : Nat} {av : List Value} {y : MethodName} {Wl W' : List Cond} {rm : Room} {Qc : Array Value → State → Outcome → State → Prop} {cc : ByteArray} {maxL : Nat} {ret : Option FieldType} {hh : List (Nat × Nat × Nat × Nat)} {mc ms : Nat} {free : Addr → Prop} (lv : List (Nat × Value)) (hlv : lv_args 0 av = lv) (hsl : (lg_sl av).length ≤ maxL) (hy : plainName y.cls = true) (hw : Wl = Cond.codeWith y cc maxL ret hh :: W')
    (body : ∀ (p : Program) (e : Env) (s : State) (m : MethodId) (below : List Frame) (meth : Method) (c : Code), p.tables.exec = Jvm.exec → c.code = cc → meth.sig.returnType = ret → c.maxLocals = maxL → s.vm.findClass y.cls = some m.cls → (∀ w ∈ Wl, w.before av.toArray s = true) → meth.locks = false → va_K D cl tys s → s.heap.size = sz → (∀ q, s.heap.size ≤ q → va_A ws sz q) → zE (va_A ws sz) s s.heap → c.exceptionTable.toList = tableOf hh →
      Gz p l e rm s m av.toArray below meth c maxL 0 0 (MQ below Qc av.toArray s mc ms free) (Zw D cl (va_A ws sz) s ws) 0 lv []) (hrm : (headSpec Wl rm).room = rm := by rfl) : Met l y Wl rm (zPe D cl tys ws sz av) Qc mc ms free := by
  refine MetFree.of_bodyS (code := cc) (maxLocals := maxL) (ret := ret) hy ?_ ?_
  · intro args s m h hn
    obtain ⟨m9, meth, c, hn9, h1, h2, h3, h4, -, h5, h6, -⟩ := Cond.codeWith_spec (atoms_spec (ws := Wl) h _ (by rw [hw]; exact List.mem_cons_self))
    cases hn.symm.trans hn9
    exact ⟨meth, c, h1, h2, h3, h4, h5, h6⟩
  · intro p e s m args below meth c s₁ B hml hP _
    have hh0 : s₁.heap = s.heap := by rw [B.state]; rfl
    obtain ⟨rfl, hsz, hP1, hK, hD, hE⟩ := hP
    have hml2 : c.maxLocals = maxL := hml
    have hT := vx_table (x := y) B (atoms_spec (ws := Wl) B.pre _ (by rw [hw]; exact List.mem_cons_self))
    have k := body p e s m below meth c B.exec B.bytes B.returns hml2 (findClass_of_methodNamed B.named) (atoms_spec (ws := Wl) B.pre) B.notSynchronized hK hsz (fun q h => Or.inr (by rw [← hsz]; exact h)) hE hT
    have hl := lv_entry av (n := maxL) hsl
    rw [hlv] at hl
    have k2 := k s.heap [] _ ⟨hP1, hD.self, va_S.rf⟩ hl
    rw [← hrm, ← lg_entry_eq] at k2
    obtain ⟨t, a1, o, b1, b2, b3⟩ := k2 s₁ hh0 (Stand.of_body B)
    exact ⟨t, o, a1, b1, b2, b3⟩
section ZW
variable {p : Program} {l : Launch} {e : Env} {R : Room} {s : State} {m : MethodId} {args : Array Value} {below : List Frame} {meth : Method} {c : Code} {nL k n : Nat} {Q : State → Prop} {I : Heap → List Loc → Prop} {cc : ByteArray} {pc : Nat} {lv : List (Nat × Value)} {rest : List Value} {D : va_G} {cl : List vw_C} {tys : List (ClassId × FieldType)} {ws : va_W} {A : Nat → Prop} {a : Nat}
/-- the row of one long -/
theorem z_last (hx : p.tables.exec = Jvm.exec) (hb : c.code = cc) (hK : va_K D cl tys s) (q0 t0 : Nat) {cA : ClassId} {g : Nat → Int64} (he : ws[q0]? = some (a, .inl (cA, 1, .inr (.inl g)))) (ht : tys[t0]? = some (cA, .long)) {v : Int64} (hdg : decode cc pc = .ok (.lastore, 1)) (ws' : va_W) (hws : ws.set q0 (a, .inl (cA, 1, .inr (.inl (vp_updL g 0 v)))) = ws')
    (K : Gz p l e R s m args below meth c nL k n Q (Zw D cl A s ws') (pc + 1) lv rest) : Gz p l e R s m args below meth c nL k n Q (Zw D cl A s ws) pc lv (.long v :: .int (iZ 0) :: .ref a :: rest) := fun H locs ls hI hl =>
  va_last hx hb hK hI.1 hI.2.1 hI.2.2 q0 t0 he ht (zin (i := 0) (by omega) (by omega)) hdg (fun H1 locs1 hP1 hD1 hS1 => by
    rw [show (iZ 0).toNatClampNeg = 0 from rfl, hws] at hP1 hD1
    exact K H1 locs1 ls ⟨hP1, hD1, hS1⟩ hl)
theorem z_lald (hx : p.tables.exec = Jvm.exec) (hb : c.code = cc) (hK : va_K D cl tys s) (q0 t0 : Nat) {cA : ClassId} {g : Nat → Int64} (he : ws[q0]? = some (a, .inl (cA, 1, .inr (.inl g)))) (ht : tys[t0]? = some (cA, .long)) (hdg : decode cc pc = .ok (.laload, 1))
    (K : Gz p l e R s m args below meth c nL k n Q (Zw D cl A s ws) (pc + 1) lv (.long (g 0) :: rest)) : Gz p l e R s m args below meth c nL k n Q (Zw D cl A s ws) pc lv (.int (iZ 0) :: .ref a :: rest) := fun H locs ls hI hl =>
  va_lald hx hb hK hI.1 q0 t0 he ht (zin (i := 0) (by omega) (by omega)) hdg (K H locs ls hI hl)
/-- a call over a part of the world, which answers an int and stands on the environment -/
theorem z_callIE {y : MethodName} {bytes : ByteArray} {maxL index nA mc ms : Nat} {ret : Option FieldType} {W1 : List Cond} {rm : Room} {Ts : List Cond} {own C : String} {b : Addr} {As : List Value} {wa wc wb : va_W} {stk : List Value} {ci : Nat} {q : vw_C} {fs : List Value} {S : Type} {post : Int32 → S → Prop} {wf : S → va_W} (F : CallFix p m c cc nL s args Ts own) (hK : va_K D cl tys s) (hA : ∀ q, s.heap.size ≤ q → A q) (hE : zE A s s.heap) (hM : ∀ sz, Met l y W1 rm (zPe D cl tys wc sz (.ref b :: As)) (va_Qi post (zB D cl tys wc sz wf) (va_A wc sz)) mc ms (va_A wc sz)) (cw : CallW R s args own C index y bytes maxL ret W1 rm mc ms nA) (hws : ws = wa ++ wc ++ wb) (q0 : Nat) (he : ws[q0]? = some (b, .inr (ci, fs))) (hc : cl[ci]? = some q) (hC : q.1 = C) (hn : As.length = nA) (hstk : stk = As.reverse ++ .ref b :: rest) (hW : (rest.map fun v => v.category).sum ≤ 8) (hkn : k + mc ≤ R.cells ∧ n + ms ≤ R.slots) (hdg : decode cc pc = .ok (.invokevirtual index, 3))
    (K : ∀ (r : Int32) (u : S), post r u → Gz p l e R s m args below meth c nL (k + mc) (n + ms) Q (Zw D cl A s (wa ++ wf u ++ wb)) (pc + 3) lv (.int r :: rest)) : Gz p l e R s m args below meth c nL k n Q (Zw D cl A s ws) pc lv stk := by
  intro H locs ls hI hl
  obtain ⟨hP, hD, hS⟩ := hI
  subst hC
  have hr := va_recv hK hP hc he
  subst hws
  have hF := z_mine hD hS hA
  refine va_calli (va_runV F (hM H.size) cw ⟨zPe_blind, hr, fun U hU hW => ⟨rfl, by rw [hU], by rw [hU]; exact zP_mid hP, va_K.moved hW.alike hK, zD_mid hD (fun _ _ => trivial), hE.call hS hF hU hW⟩⟩ rfl hn hl.1 hstk (lv_room hW) hdg hkn) hS (fun q _ h => hF q h) hF (fun r u t H1 locs1 ht hvm hw hB hz hk hS1 => ?_)
  obtain ⟨hP1, hK1, hD1⟩ := hB
  rw [ht] at hP1
  obtain ⟨hP2, hD2⟩ := z_join hP hD hk hF hP1 hD1
  exact K r u hw H1 locs1 ls ⟨hP2, hD2, hS1⟩ hl
/-- a throw caught here: pre the handlers passed by, x the one that takes it -/
theorem z_callXc {y : MethodName} {bytes : ByteArray} {maxL nA index : Nat} {ret : Option FieldType} {W1 : List Cond} {rm : Room} {Ts : List Cond} {own C X : String} {b : Addr} {As : List Value} {wa wc wb : va_W} {stk : List Value} {ci : Nat} {q : vw_C} {fs : List Value}
    (F : CallFix p m c cc nL s args Ts own) (hK : va_K D cl tys s) (hA : ∀ q, s.heap.size ≤ q → A q) (hE : zE A s s.heap) (hM : ∀ sz, vx_Met l y W1 rm (zPe D cl tys wc sz (.ref b :: As)) zNo (zXc X D cl tys wc sz) 1 6 (va_A wc sz)) (cw : CallW R s args own C index y bytes maxL ret W1 rm 1 6 nA) (hws : ws = wa ++ wc ++ wb) (q0 : Nat) (he : ws[q0]? = some (b, .inr (ci, fs))) (hc : cl[ci]? = some q) (hC : q.1 = C) (hn : As.length = nA) (hstk : stk = As.reverse ++ .ref b :: rest) (hW : (rest.map fun v => v.category).sum ≤ 8) (hkn : k + 1 ≤ R.cells ∧ n + 6 ≤ R.slots) (hdg : decode cc pc = .ok (.invokevirtual index, 3))
    (pre : List ExceptionTableEntry) (x : ExceptionTableEntry) (suf : List ExceptionTableEntry) (hsplit : c.exceptionTable.toList = pre ++ x :: suf) (hpass : ∀ z ∈ pre, covers z pc = false ∨ (z.catchType ≠ 0 ∧ ∃ nm : String, (Cond.classLink own z.catchType nm).before args s = true ∧ va_Nc X nm s)) (hcov : covers x pc = true) (h0 : x.catchType ≠ 0) (hlink : (Cond.classLink own x.catchType X).before args s = true) (hcast : (Cond.castable X X).before args s = true) {tgt : Nat} (htgt : x.handlerPc = tgt)
    (K : ∀ q9 : Nat, Gz p l e R s m args below meth c nL (k + 1) (n + 6) Q (Zw D cl A s ws) tgt lv [.ref q9]) : Gz p l e R s m args below meth c nL k n Q (Zw D cl A s ws) pc lv stk := fun H locs ls hI hl =>
  z_ran F hK hA hE hM cw hws q0 he hc hC hn hstk hW hkn hdg hI hl (fun ce q9 H1 locs1 hI1 h1 h2 h3 => by
    obtain ⟨-, -, -, ho, -⟩ := F
    exact vx_catch ho pre x suf hsplit hpass hcov h0 hlink hcast h1 h2 h3 (by rw [htgt]; exact K q9 H1 locs1 ls hI1 hl))
/-- a static method of the law's own is called -/
theorem z_callSI {y : MethodName} {bytes : ByteArray} {maxL index nA mc ms : Nat} {ret : Option FieldType} {hh : List (Nat × Nat × Nat × Nat)} {W1 : List Cond} {rm : Room} {Ts : List Cond} {own : String} {As : List Value} {wa wc wb : va_W} {stk : List Value} {S : Type} {post : Int32 → S → Prop} {wf : S → va_W} (F : CallFix p m c cc nL s args Ts own) (hK : va_K D cl tys s) (hA : ∀ q, s.heap.size ≤ q → A q) (hE : zE A s s.heap) (hM : ∀ sz, Met l y W1 rm (zPe D cl tys wc sz As) (va_Qi post (zB D cl tys wc sz wf) (va_A wc sz)) mc ms (va_A wc sz)) (cw : vx_CSW R s args own index y bytes maxL ret hh W1 rm mc ms nA) (hws : ws = wa ++ wc ++ wb) (hn : As.length = nA) (hstk : stk = As.reverse ++ rest) (hW : (rest.map fun v => v.category).sum ≤ 8) (hkn : k + mc ≤ R.cells ∧ n + ms ≤ R.slots) (hdg : decode cc pc = .ok (.invokestatic index, 3))
    (K : ∀ (r : Int32) (u : S), post r u → Gz p l e R s m args below meth c nL (k + mc) (n + ms) Q (Zw D cl A s (wa ++ wf u ++ wb)) (pc + 3) lv (.int r :: rest)) : Gz p l e R s m args below meth c nL k n Q (Zw D cl A s ws) pc lv stk := by
  intro H locs ls hI hl
  obtain ⟨hP, hD, hS⟩ := hI
  subst hws
  have hF := z_mine hD hS hA
  refine va_calli (vx_runSW F (hM H.size) cw ⟨zPe_blind, fun U hU hW => ⟨rfl, by rw [hU], by rw [hU]; exact zP_mid hP, va_K.moved hW.alike hK, zD_mid hD (fun _ _ => trivial), hE.call hS hF hU hW⟩⟩ rfl hn hl.1 hstk (lv_room hW) hdg hkn) hS (fun q _ h => hF q h) hF (fun r u t H1 locs1 ht hvm hw hB hz hk hS1 => ?_)
  obtain ⟨hP1, hK1, hD1⟩ := hB
  rw [ht] at hP1
  obtain ⟨hP2, hD2⟩ := z_join hP hD hk hF hP1 hD1
  exact K r u hw H1 locs1 ls ⟨hP2, hD2, hS1⟩ hl
end ZW
def wO1 (y : Nat → ClassId) (ob : Nat) (g : Nat → Int64) : va_W := [(ob, .inl (y 3, 1, .inr (.inl g)))]
def tE (q : Nat × Nat × Nat × Nat) : ExceptionTableEntry := { startPc := q.1, endPc := q.2.1, handlerPc := q.2.2.1, catchType := q.2.2.2 }
