/-! Throws of the class: what a method that only throws is owed, and how it is called -/
def zNo : Array Value → State → Outcome → State → Prop := fun _ _ _ _ => False
/-- the world as it was, and an exception of class X -/
def zXc (X : String) (D : va_G) (cl : List vw_C) (tys : List (ClassId × FieldType)) (ws : va_W) (sz : Nat) : String → State → State → Prop := fun E st t => E = X ∧ va_P D cl ws t.heap ∧ va_K D cl tys t ∧ va_F (va_A ws sz) st t
theorem z_headX {l : Launch} {D : va_G} {cl : List vw_C} {tys : List (ClassId × FieldType)} {ws : va_W} {sz : Nat} {av : List Value} {y : MethodName} {W W' : List Cond} {rm : Room} {Qc : Array Value → State → Outcome → State → Prop} {XC : String → State → State → Prop} {cc : ByteArray} {maxL : Nat} {ret : Option FieldType} {mc ms : Nat} {free : Addr → Prop} (lv : List (Nat × Value)) (hlv : lv_args 0 av = lv) (hsl : (lg_sl av).length ≤ maxL) (hy : plainName y.cls = true) (hw : W = Cond.code y cc maxL ret :: W')
    (body : ∀ (p : Program) (e : Env) (s : State) (m : MethodId) (below : List Frame) (meth : Method) (c : Code), p.tables.exec = Jvm.exec → c.code = cc → meth.sig.returnType = ret → c.maxLocals = maxL → s.vm.findClass y.cls = some m.cls → (∀ w ∈ W, w.before av.toArray s = true) → meth.locks = false → va_K D cl tys s → meth.name = y.name → s.heap.size = sz → (∀ q, s.heap.size ≤ q → va_A ws sz q) → zE (va_A ws sz) s s.heap → (∀ x ∈ c.exceptionTable.toList, False) →
      Gz p l e rm s m av.toArray below meth c maxL 0 0 (vx_MQ below Qc XC av.toArray s mc ms free) (Zw D cl (va_A ws sz) s ws) 0 lv []) (hrm : (headSpec W rm).room = rm := by rfl) : vx_Met l y W rm (zPe D cl tys ws sz av) Qc XC mc ms free := by
  refine vx_ofW (cc := cc) (maxL := maxL) (ret := ret) hy hw ?_
  intro p e s m args below meth c s₁ B hml hx hv
  obtain ⟨rfl, hsz, hP, hK, hD, hE⟩ := hv
  have k := body p e s m below meth c B.exec B.bytes B.returns hml (findClass_of_methodNamed B.named) (atoms_spec (ws := W) B.pre) B.notSynchronized hK (name_of_methodNamed B.named B.method).1 hsz (fun q h => Or.inr (by rw [← hsz]; exact h)) hE hx
  rw [hrm, lg_entry_eq]
  have hl := lv_entry av (n := maxL) hsl
  rw [hlv] at hl
  exact k s.heap [] _ ⟨hP, hD.self, va_S.rf⟩ hl
/-- the words of a throw of X -/
def Thr (own : String) (ik ic : Nat) (X : String) : Prop := Bundle.fit X = true ∧ (∀ w ∈ (vx_atS own ic X nm2).filter (fun w => !goodWord w), w ∈ eWs) ∧ (∀ w ∈ Cond.classLink own ik X :: Cond.initialized X :: vx_atS own ic X nm2, vx_ot w = true)
theorem thrI : Thr "BlockCoaster" 119 123 "java/lang/IndexOutOfBoundsException" := ⟨by decide +kernel, by decide +kernel, by decide +kernel⟩
theorem thrS : Thr "BlockCoaster" 64 68 "java/lang/IllegalStateException" := ⟨by decide +kernel, by decide +kernel, by decide +kernel⟩
theorem thrA : Thr "BlockCoaster" 130 134 "java/lang/IllegalArgumentException" := ⟨by decide +kernel, by decide +kernel, by decide +kernel⟩
theorem nm2_fit : ∀ n ∈ nm2, Bundle.fit n = true := by decide +kernel
theorem eW_ot : ∀ w ∈ eWs, w.onTables = true := by decide
theorem eW_use {w : Cond} {s : State} {args : Array Value} (hw : w ∈ eWs) (h : va_Nw w s) : w.before args s = true := va_Nw.use (eW_ot w hw) h
section ZT
variable {p : Program} {l : Launch} {e : Env} {R : Room} {s : State} {m : MethodId} {args : Array Value} {below : List Frame} {meth : Method} {c : Code} {nL k n : Nat} {Q : State → Prop} {cc : ByteArray} {pc : Nat} {lv : List (Nat × Value)} {rest : List Value} {D : va_G} {cl : List vw_C} {tys : List (ClassId × FieldType)} {ws : va_W} {sz : Nat} {Qc : Array Value → State → Outcome → State → Prop}
theorem z_throwS {ik ic is : Nat} {X text : String} (T : Thr "BlockCoaster" ik ic X) (hx : p.tables.exec = Jvm.exec) (hb : c.code = cc) (hl0 : l.stackTraces = false) (hml : c.maxLocals = nL) (hown : s.vm.findClass "BlockCoaster" = some m.cls) (hk : (Cond.classLink "BlockCoaster" ik X).before args s = true) (hini : (Cond.initialized X).before args s = true) (hg : ∀ w ∈ (vx_atS "BlockCoaster" ic X nm2).filter goodWord, w.before args s = true) (hK : va_K D cl tys s) (hE : zE (va_A ws sz) s s.heap) (hs : (is, text) ∈ eStr) (ht : ∀ x ∈ c.exceptionTable.toList, False) (hlocks : meth.locks = false)
    (d0 : decode cc pc = .ok (.new ik, 3)) (d3 : decode cc (pc + 3) = .ok (.dup, 1)) (d4 : decode cc (pc + 4) = .ok (.ldc is, 2)) (d6 : decode cc (pc + 6) = .ok (.invokespecial ic, 3)) (d9 : decode cc (pc + 9) = .ok (.athrow, 1)) (hfr : 5 < R.frames) (hW : (rest.map fun v => v.category).sum ≤ 8) (hlo : 90 ≤ R.locals) (hc : k + 1 ≤ 1 ∧ n + 6 ≤ 6) (hR : 1 ≤ R.cells ∧ 6 ≤ R.slots) :
    Gz p l e R s m args below meth c nL k n (vx_MQ below Qc (zXc X D cl tys ws sz) args s 1 6 (va_A ws sz)) (Zw D cl (va_A ws sz) s ws) pc lv rest := by
  intro H locs ls hI hl
  obtain ⟨sa, hstr⟩ := hE.2.2.2.2.1 (is, text) hs
  refine vx_throwS (names := nm2) (text := text) (sa := sa) hx hb hl0 hown T.1 nm2_fit hk hini hstr ?_ T.2.2 hE.1.1 hE.1.2 hI.2.2 (by rw [hl.1, hml]) d0 d3 d4 d6 d9 (fun x h => absurd h (fun h => ht x h)) (by show 2 + 3 < _; omega) (by show _ + (13 * (2 + 1) + 43) ≤ _; omega) (by omega) (by omega) hlocks ?_ hI.2.2.2.2 (by omega) (by omega)
  · exact vx_hat hg T.2.1 (fun w hw => (hE.2.2.2.1 w hw : va_Nw w s) |> eW_use hw)
  · intro t hA hsz hq
    exact ⟨rfl, zP_iff.mpr (fun q hq2 => (zP_iff.mp hI.1 q hq2).kept (hq q.1 ((zP_iff.mp hI.1 q hq2).lt))), va_K.moved hA hK, Nat.le_trans hI.2.2.1 hsz, fun q h1 h2 => (hq q (Nat.lt_of_lt_of_le h1 hI.2.2.1)).trans (hI.2.2.2.1 q h1 h2)⟩
theorem z_throwSW {ik ic is : Nat} {X text : String} (T : Thr "BlockCoaster" ik ic X) (hx : p.tables.exec = Jvm.exec) (hb : c.code = cc) (hl0 : l.stackTraces = false) (hml : c.maxLocals = nL) (hown : s.vm.findClass "BlockCoaster" = some m.cls) (hk : (Cond.classLink "BlockCoaster" ik X).before args s = true) (hini : (Cond.initialized X).before args s = true) (hg : ∀ w ∈ (vx_atS "BlockCoaster" ic X nm2).filter goodWord, w.before args s = true) (hK : va_K D cl tys s) (hE : zE (va_A ws sz) s s.heap) (hs : (is, text) ∈ eStr) (ht : ∀ x ∈ c.exceptionTable.toList, False) (hlocks : meth.locks = false)
    (d0 : decode cc pc = .ok (.new ik, 3)) (d3 : decode cc (pc + 3) = .ok (.dup, 1)) (d4 : decode cc (pc + 4) = .ok (.ldc_w is, 3)) (d7 : decode cc (pc + 7) = .ok (.invokespecial ic, 3)) (d10 : decode cc (pc + 10) = .ok (.athrow, 1)) (hfr : 5 < R.frames) (hW : (rest.map fun v => v.category).sum ≤ 8) (hlo : 90 ≤ R.locals) (hc : k + 1 ≤ 1 ∧ n + 6 ≤ 6) (hR : 1 ≤ R.cells ∧ 6 ≤ R.slots) :
    Gz p l e R s m args below meth c nL k n (vx_MQ below Qc (zXc X D cl tys ws sz) args s 1 6 (va_A ws sz)) (Zw D cl (va_A ws sz) s ws) pc lv rest := by
  intro H locs ls hI hl
  obtain ⟨sa, hstr⟩ := hE.2.2.2.2.1 (is, text) hs
  refine vx_throwSW (names := nm2) (text := text) (sa := sa) hx hb hl0 hown T.1 nm2_fit hk hini hstr ?_ T.2.2 hE.1.1 hE.1.2 hI.2.2 (by rw [hl.1, hml]) d0 d3 d4 d7 d10 (fun x h => absurd h (fun h => ht x h)) (by show 2 + 3 < _; omega) (by show _ + (13 * (2 + 1) + 43) ≤ _; omega) (by omega) (by omega) hlocks ?_ hI.2.2.2.2 (by omega) (by omega)
  · exact vx_hat hg T.2.1 (fun w hw => (hE.2.2.2.1 w hw : va_Nw w s) |> eW_use hw)
  · intro t hA hsz hq
    exact ⟨rfl, zP_iff.mpr (fun q hq2 => (zP_iff.mp hI.1 q hq2).kept (hq q.1 ((zP_iff.mp hI.1 q hq2).lt))), va_K.moved hA hK, Nat.le_trans hI.2.2.1 hsz, fun q h1 h2 => (hq q (Nat.lt_of_lt_of_le h1 hI.2.2.1)).trans (hI.2.2.2.1 q h1 h2)⟩
/-- a callee that only throws: what its run leaves -/
theorem z_ran {y : MethodName} {bytes : ByteArray} {maxL nA index : Nat} {ret : Option FieldType} {W1 : List Cond} {rm : Room} {Ts : List Cond} {own C X : String} {b : Addr} {As : List Value} {stk : List Value} {ci : Nat} {q : vw_C} {fs : List Value} {wa wc wb : va_W} {A : Nat → Prop} {H : Heap} {locs : List Loc} {ls : Array Slot}
    (F : CallFix p m c cc nL s args Ts own) (hK : va_K D cl tys s) (hA : ∀ q, s.heap.size ≤ q → A q) (hE : zE A s s.heap) (hM : ∀ sz, vx_Met l y W1 rm (zPe D cl tys wc sz (.ref b :: As)) zNo (zXc X D cl tys wc sz) 1 6 (va_A wc sz)) (cw : CallW R s args own C index y bytes maxL ret W1 rm 1 6 nA) (hws : ws = wa ++ wc ++ wb) (q0 : Nat) (he : ws[q0]? = some (b, .inr (ci, fs))) (hc : cl[ci]? = some q) (hC : q.1 = C) (hn : As.length = nA) (hstk : stk = As.reverse ++ .ref b :: rest) (hW : (rest.map fun v => v.category).sum ≤ 8) (hkn : k + 1 ≤ R.cells ∧ n + 6 ≤ R.slots) (hdg : decode cc pc = .ok (.invokevirtual index, 3))
    (hI : Zw D cl A s ws H locs) (hl : lv_has ls nL lv)
    (kx : ∀ (ce : Cell) (q9 : Addr) (H1 : Heap) (locs1 : List Loc), Zw D cl A s ws H1 locs1 → H1[q9]? = some ce → ce.vm = .none → s.vm.findClass X = some ce.cls → vx_W p l e R s m args below meth c H1 locs1 (k + 1) (n + 6) Q (F0 m pc ls rest) q9) : W p l e R s m args below meth c H locs k n Q (F0 m pc ls stk) := by
  obtain ⟨hP, hD, hS⟩ := hI
  subst hws
  have hF := z_mine hD hS hA
  have hr := vx_runV (e := e) (meth := meth) (below := below) (H := H) (locs := locs) (cells := k) (slots := n) (g := F0 m pc ls stk) (rest := rest) F (hM H.size) cw ⟨zPe_blind, (by
      obtain ⟨cell, h1, h2, h3⟩ := va_recv hK hP hc he
      exact ⟨cell, h1, h2, by rw [← hC]; exact h3⟩), fun U hU hW => ⟨rfl, by rw [hU], by rw [hU]; exact zP_mid hP, va_K.moved hW.alike hK, zD_mid hD (fun _ _ => trivial), hE.call hS hF hU hW⟩⟩ rfl hn hl.1 hstk (by show 2 * 0 + _ ≤ _; omega) hdg hkn
  intro T hT X0
  rcases hr T hT X0 with ⟨v, st₀, t, T', L, h0, X', hL, e1, e2, hb, st⟩ | ⟨q9, st₀, t, T', L, E, ce, h0, X', hL, e1, e2, ⟨rfl, hP1, hK1, hF1⟩, hce, hcv, hcl, st⟩
  · exact absurd hb (fun h => h)
  · obtain ⟨k1, k2, k3⟩ := vx_keep h0 e1 hS (fun q _ h => hF q h) hF hL hF1
    have hP2 : va_P D cl (wa ++ wc ++ wb) T'.heap ∧ va_D A (wa ++ wc ++ wb) := z_join hP hD k2 hF (by rw [e1]; exact hP1) (zD_mid hD (fun q hq => by
      obtain ⟨i, hi⟩ := List.getElem?_of_mem hq
      exact Or.inl ⟨i, q.2, hi⟩))
    obtain ⟨t2, a1, b1⟩ := kx ce q9 T'.heap (locs ++ L) ⟨hP2.1, hP2.2, k3⟩ (by rw [e1]; exact hce) hcv hcl T' rfl X'
    exact ⟨t2, st.trans a1, b1⟩
/-- not caught here -/
theorem z_callX {y : MethodName} {bytes : ByteArray} {maxL nA index : Nat} {ret : Option FieldType} {W1 : List Cond} {rm : Room} {Ts : List Cond} {own C X : String} {b : Addr} {As : List Value} {stk : List Value} {ci : Nat} {q : vw_C} {fs : List Value}
    (F : CallFix p m c cc nL s args Ts own) (hK : va_K D cl tys s) (hA : ∀ q, s.heap.size ≤ q → va_A ws sz q) (hE : zE (va_A ws sz) s s.heap) (hM : ∀ sz, vx_Met l y W1 rm (zPe D cl tys ws sz (.ref b :: As)) zNo (zXc X D cl tys ws sz) 1 6 (va_A ws sz)) (cw : CallW R s args own C index y bytes maxL ret W1 rm 1 6 nA) (q0 : Nat) (he : ws[q0]? = some (b, .inr (ci, fs))) (hc : cl[ci]? = some q) (hC : q.1 = C) (hn : As.length = nA) (hstk : stk = As.reverse ++ .ref b :: rest) (hW : (rest.map fun v => v.category).sum ≤ 8) (hkn : k + 1 ≤ 1 ∧ n + 6 ≤ 6) (hR : 1 ≤ R.cells ∧ 6 ≤ R.slots) (hdg : decode cc pc = .ok (.invokevirtual index, 3)) (ht : ∀ x ∈ c.exceptionTable.toList, False) (hlocks : meth.locks = false) :
    Gz p l e R s m args below meth c nL k n (vx_MQ below Qc (zXc X D cl tys ws sz) args s 1 6 (va_A ws sz)) (Zw D cl (va_A ws sz) s ws) pc lv stk := fun H locs ls hI hl =>
  z_ran (wa := []) (wb := []) F hK hA hE hM cw (by simp) q0 he hc hC hn hstk hW ⟨by omega, by omega⟩ hdg hI hl (fun ce q9 H1 locs1 hI1 h1 h2 h3 => vx_out (fun x h => absurd h (fun h => ht x h)) hlocks h1 h2 h3 (fun t hT hAl => ⟨rfl, by rw [hT]; exact hI1.1, va_K.moved hAl hK, by rw [hT]; exact hI1.2.2.1, fun q q1 q2 => by rw [hT]; exact hI1.2.2.2.1 q q1 q2⟩) hI1.2.2.2.2 (by omega) (by omega))
end ZT
