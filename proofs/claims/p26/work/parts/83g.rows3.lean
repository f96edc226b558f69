/-! Rows for the law's own methods of p26 -/
section ZG3
variable {p : Program} {l : Launch} {e : Env} {R : Room} {s : State} {m : MethodId} {args : Array Value} {below : List Frame} {meth : Method} {c : Code} {nL k n : Nat} {Q : State → Prop} {I : Heap → List Loc → Prop} {cc : ByteArray} {pc : Nat} {lv : List (Nat × Value)} {rest : List Value} {D : va_G} {cl : List vw_C} {tys : List (ClassId × FieldType)} {ws : va_W} {A : Nat → Prop} {a : Nat}
/-- static methods without a table, which stand on the environment -/
theorem z_callSE {y : MethodName} {bytes : ByteArray} {maxL index nA mc ms : Nat} {ret : Option FieldType} {W1 : List Cond} {rm : Room} {Ts : List Cond} {own : String} {As : List Value} {wa wc wb : va_W} {stk : List Value} {S : Type} {post : Int32 → S → Prop} {wf : S → va_W} (F : CallFix p m c cc nL s args Ts own) (hK : va_K D cl tys s) (hA : ∀ q, s.heap.size ≤ q → A q) (hE : zE A s s.heap) (hM : ∀ sz, Met l y W1 rm (zPe D cl tys wc sz As) (va_Qi post (zB D cl tys wc sz wf) (va_A wc sz)) mc ms (va_A wc sz)) (cw : CallB R s args own index y bytes maxL ret W1 rm mc ms nA ∧ (Cond.static y).before args s = true) (hws : ws = wa ++ wc ++ wb) (hn : As.length = nA) (hstk : stk = As.reverse ++ rest) (hW : (rest.map fun v => v.category).sum ≤ 8) (hkn : k + mc ≤ R.cells ∧ n + ms ≤ R.slots) (hdg : decode cc pc = .ok (.invokestatic index, 3))
    (K : ∀ (r : Int32) (u : S), post r u → Gz p l e R s m args below meth c nL (k + mc) (n + ms) Q (Zw D cl A s (wa ++ wf u ++ wb)) (pc + 3) lv (.int r :: rest)) : Gz p l e R s m args below meth c nL k n Q (Zw D cl A s ws) pc lv stk := by
  intro H locs ls hI hl
  obtain ⟨hP, hD, hS⟩ := hI
  subst hws
  have hF := z_mine hD hS hA
  refine va_calli (va_runS F (hM H.size) cw ⟨zPe_blind, fun U hU hW => ⟨rfl, by rw [hU], by rw [hU]; exact zP_mid hP, va_K.moved hW.alike hK, zD_mid hD (fun _ _ => trivial), hE.call hS hF hU hW⟩⟩ rfl hn hl.1 hstk (lv_room hW) hdg hkn) hS (fun q _ h => hF q h) hF (fun r u t H1 locs1 ht hvm hw hB hz hk hS1 => ?_)
  obtain ⟨hP1, hK1, hD1⟩ := hB
  rw [ht] at hP1
  obtain ⟨hP2, hD2⟩ := z_join hP hD hk hF hP1 hD1
  exact K r u hw H1 locs1 ls ⟨hP2, hD2, hS1⟩ hl
theorem z_callSEl {y : MethodName} {bytes : ByteArray} {maxL index nA mc ms : Nat} {ret : Option FieldType} {W1 : List Cond} {rm : Room} {Ts : List Cond} {own : String} {As : List Value} {wa wc wb : va_W} {stk : List Value} {S : Type} {post : Int64 → S → Prop} {wf : S → va_W} (F : CallFix p m c cc nL s args Ts own) (hK : va_K D cl tys s) (hA : ∀ q, s.heap.size ≤ q → A q) (hE : zE A s s.heap) (hM : ∀ sz, Met l y W1 rm (zPe D cl tys wc sz As) (va_Ql post (zB D cl tys wc sz wf) (va_A wc sz)) mc ms (va_A wc sz)) (cw : CallB R s args own index y bytes maxL ret W1 rm mc ms nA ∧ (Cond.static y).before args s = true) (hws : ws = wa ++ wc ++ wb) (hn : As.length = nA) (hstk : stk = As.reverse ++ rest) (hW : (rest.map fun v => v.category).sum ≤ 8) (hkn : k + mc ≤ R.cells ∧ n + ms ≤ R.slots) (hdg : decode cc pc = .ok (.invokestatic index, 3))
    (K : ∀ (r : Int64) (u : S), post r u → Gz p l e R s m args below meth c nL (k + mc) (n + ms) Q (Zw D cl A s (wa ++ wf u ++ wb)) (pc + 3) lv (.long r :: rest)) : Gz p l e R s m args below meth c nL k n Q (Zw D cl A s ws) pc lv stk := by
  intro H locs ls hI hl
  obtain ⟨hP, hD, hS⟩ := hI
  subst hws
  have hF := z_mine hD hS hA
  refine va_calll (va_runS F (hM H.size) cw ⟨zPe_blind, fun U hU hW => ⟨rfl, by rw [hU], by rw [hU]; exact zP_mid hP, va_K.moved hW.alike hK, zD_mid hD (fun _ _ => trivial), hE.call hS hF hU hW⟩⟩ rfl hn hl.1 hstk (lv_room hW) hdg hkn) hS (fun q _ h => hF q h) hF (fun r u t H1 locs1 ht hvm hw hB hz hk hS1 => ?_)
  obtain ⟨hP1, hK1, hD1⟩ := hB
  rw [ht] at hP1
  obtain ⟨hP2, hD2⟩ := z_join hP hD hk hF hP1 hD1
  exact K r u hw H1 locs1 ls ⟨hP2, hD2, hS1⟩ hl
theorem z_callSEv {y : MethodName} {bytes : ByteArray} {maxL index nA mc ms : Nat} {ret : Option FieldType} {W1 : List Cond} {rm : Room} {Ts : List Cond} {own : String} {As : List Value} {wa wc wb : va_W} {stk : List Value} {S : Type} {post : S → Prop} {wf : S → va_W} (F : CallFix p m c cc nL s args Ts own) (hK : va_K D cl tys s) (hA : ∀ q, s.heap.size ≤ q → A q) (hE : zE A s s.heap) (hM : ∀ sz, Met l y W1 rm (zPe D cl tys wc sz As) (va_Qv post (zB D cl tys wc sz wf) (va_A wc sz)) mc ms (va_A wc sz)) (cw : CallB R s args own index y bytes maxL ret W1 rm mc ms nA ∧ (Cond.static y).before args s = true) (hws : ws = wa ++ wc ++ wb) (hn : As.length = nA) (hstk : stk = As.reverse ++ rest) (hW : (rest.map fun v => v.category).sum ≤ 8) (hkn : k + mc ≤ R.cells ∧ n + ms ≤ R.slots) (hdg : decode cc pc = .ok (.invokestatic index, 3))
    (K : ∀ u : S, post u → Gz p l e R s m args below meth c nL (k + mc) (n + ms) Q (Zw D cl A s (wa ++ wf u ++ wb)) (pc + 3) lv rest) : Gz p l e R s m args below meth c nL k n Q (Zw D cl A s ws) pc lv stk := by
  intro H locs ls hI hl
  obtain ⟨hP, hD, hS⟩ := hI
  subst hws
  have hF := z_mine hD hS hA
  refine va_callv (va_runS F (hM H.size) cw ⟨zPe_blind, fun U hU hW => ⟨rfl, by rw [hU], by rw [hU]; exact zP_mid hP, va_K.moved hW.alike hK, zD_mid hD (fun _ _ => trivial), hE.call hS hF hU hW⟩⟩ rfl hn hl.1 hstk (lv_room hW) hdg hkn) hS (fun q _ h => hF q h) hF (fun u t H1 locs1 ht hvm hw hB hz hk hS1 => ?_)
  obtain ⟨hP1, hK1, hD1⟩ := hB
  rw [ht] at hP1
  obtain ⟨hP2, hD2⟩ := z_join hP hD hk hF hP1 hD1
  exact K u hw H1 locs1 ls ⟨hP2, hD2, hS1⟩ hl
/-- a pure static method, over cells that are none of this world's -/
theorem z_callPS1 {y : MethodName} {bytes : ByteArray} {maxL index nA : Nat} {ret : Option FieldType} {W1 : List Cond} {rm : Room} {Ts : List Cond} {own : String} {As : List Value} {w1 : va_W} {post : Int32 → Prop} {stk : List Value} (S : CallFix p m c cc nL s args Ts own) (hK : va_K D cl tys s) (hg : ∀ H locs, I H locs → va_P D cl w1 H) (hM : Met l y W1 rm (zPp D cl tys w1 As) (vp_Si post) 0 0 (fun _ => False)) (cw : CallB R s args own index y bytes maxL ret W1 rm 0 0 nA ∧ (Cond.static y).before args s = true) (hn : As.length = nA) (hstk : stk = As.reverse ++ rest) (hW : (rest.map fun v => v.category).sum ≤ 8) (hkn : k ≤ R.cells ∧ n ≤ R.slots) (hdg : decode cc pc = .ok (.invokestatic index, 3))
    (K : ∀ r : Int32, post r → Gz p l e R s m args below meth c nL k n Q I (pc + 3) lv (.int r :: rest)) : Gz p l e R s m args below meth c nL k n Q I pc lv stk := by
  intro H locs ls hI hl
  have hP := hg H locs hI
  exact vp_callSi (W.runS S hM cw ⟨zPp_blind, fun U hU hW => ⟨rfl, by rw [hU]; exact hP, va_K.moved hW.alike hK⟩⟩ rfl hn hl.1 hstk (lv_room hW) hdg hkn) (fun r hr => K r hr H locs ls hI hl)
/-- a boolean is answered -/
theorem z_retZ {S : Type} {post : Int32 → S → Prop} {wf : S → va_W} {w0 : va_W} {sz : Nat} {z : Int} (hx : p.tables.exec = Jvm.exec) (hb : c.code = cc) (hr : meth.sig.returnType = some .boolean) (hlocks : meth.locks = false) (hK : va_K D cl tys s) (hz : z = 0 ∨ z = 1) (u : S) (hu : post (iZ z) u) (hws : ws = wf u) (hdg : decode cc pc = .ok (.ireturn, 1)) : Gz p l e R s m args below meth c nL k n (MQ below (va_Qi post (zB D cl tys w0 sz wf) (va_A w0 sz)) args s k n (va_A w0 sz)) (Zw D cl (va_A w0 sz) s ws) pc lv [.int (iZ z)] := by
  intro H locs ls hI hl
  subst hws
  exact W.zret hx hb hr (narrow_z hz) (fun t ht hW => ⟨⟨iZ z, u, rfl, hu, by rw [ht]; exact hI.1, va_K.moved hW.alike hK, hI.2.1⟩, hI.2.2.F ht⟩) hI.2.2.2.2 hdg hlocks
/-- part of a world forgotten -/
theorem z_dropL {w1 w2 : va_W} (K : Gz p l e R s m args below meth c nL k n Q (Zw D cl A s w2) pc lv rest) : Gz p l e R s m args below meth c nL k n Q (Zw D cl A s (w1 ++ w2)) pc lv rest := fun H locs ls hI hl => K H locs ls ⟨by
    have h1 := hI.1
    rw [zP_iff] at h1 ⊢
    exact fun x hx => h1 x (List.mem_append_right _ hx), by
    have h2 := hI.2.1
    rw [zD_iff] at h2 ⊢
    refine ⟨?_, fun x hx => h2.2 x (List.mem_append_right _ hx)⟩
    have h3 := h2.1
    rw [List.map_append] at h3
    exact (List.nodup_append.mp h3).2.1, hI.2.2⟩ hl
theorem z_lshr (hx : p.tables.exec = Jvm.exec) (hb : c.code = cc) {x v : Int64} {y : Int32} (hdg : decode cc pc = .ok (.lshr, 1)) (hv : x >>> (y.toInt64 &&& 63) = v) (K : Gz p l e R s m args below meth c nL k n Q I (pc + 1) lv (.long v :: rest)) : Gz p l e R s m args below meth c nL k n Q I pc lv (.int y :: .long x :: rest) := fun H locs ls hI hl => lv_lshr hx hb hdg hv (K H locs ls hI hl)
theorem z_land (hx : p.tables.exec = Jvm.exec) (hb : c.code = cc) {x y : Int64} (hdg : decode cc pc = .ok (.land, 1)) (K : Gz p l e R s m args below meth c nL k n Q I (pc + 1) lv (.long (x &&& y) :: rest)) : Gz p l e R s m args below meth c nL k n Q I pc lv (.long y :: .long x :: rest) := fun H locs ls hI hl => lv_land hx hb hdg (K H locs ls hI hl)
theorem z_l2i (hx : p.tables.exec = Jvm.exec) (hb : c.code = cc) {x : Int64} {v : Int32} (hdg : decode cc pc = .ok (.l2i, 1)) (hv : x.toInt32 = v) (K : Gz p l e R s m args below meth c nL k n Q I (pc + 1) lv (.int v :: rest)) : Gz p l e R s m args below meth c nL k n Q I pc lv (.long x :: rest) := fun H locs ls hI hl => lv_l2i hx hb hdg hv (K H locs ls hI hl)
theorem z_lconst0 (hx : p.tables.exec = Jvm.exec) (hb : c.code = cc) (hdg : decode cc pc = .ok (.lconst 0, 1)) (K : Gz p l e R s m args below meth c nL k n Q I (pc + 1) lv (.long (lZ 0) :: rest)) : Gz p l e R s m args below meth c nL k n Q I pc lv rest := fun H locs ls hI hl => lv_lconst hx hb hdg (by decide) (K H locs ls hI hl)
theorem z_aload (hx : p.tables.exec = Jvm.exec) (hb : c.code = cc) {i : Nat} {x : Nat} (hdg : decode cc pc = .ok (.aload i, 2)) (j : Nat) (hj : lv[j]? = some (i, .ref x)) (K : Gz p l e R s m args below meth c nL k n Q I (pc + 2) lv (.ref x :: rest)) : Gz p l e R s m args below meth c nL k n Q I pc lv rest := fun H locs ls hI hl => lv_aload hx hb hdg (lv_at hl j hj) (K H locs ls hI hl)
theorem z_lstore (hx : p.tables.exec = Jvm.exec) (hb : c.code = cc) {i : Nat} {x : Int64} (hdg : decode cc pc = .ok (.lstore i, 2)) (hn : i + 1 < nL) (lv' : List (Nat × Value)) (hl' : (i, Value.long x) :: lv.filter (fun q => !(q.1 == i) && (!(q.1 == i + 1) && !(q.1 + 1 == i && q.2.category == 2))) = lv') (K : Gz p l e R s m args below meth c nL k n Q I (pc + 2) lv' rest) : Gz p l e R s m args below meth c nL k n Q I pc lv (.long x :: rest) := fun H locs ls hI hl => lv_lstore hx hb hdg hl hn hl' (fun ls2 hl2 => K H locs ls2 hI hl2)
theorem z_laldN (hx : p.tables.exec = Jvm.exec) (hb : c.code = cc) (hK : va_K D cl tys s) (q0 t0 : Nat) {cA : ClassId} {N : Nat} {g : Nat → Int64} (he : ws[q0]? = some (a, .inl (cA, N, .inr (.inl g)))) (ht : tys[t0]? = some (cA, .long)) {i : Int} (hN : N ≤ 2147483647) (hi : 0 ≤ i ∧ i < (N : Int)) (hdg : decode cc pc = .ok (.laload, 1))
    (K : Gz p l e R s m args below meth c nL k n Q (Zw D cl A s ws) (pc + 1) lv (.long (g i.toNat) :: rest)) : Gz p l e R s m args below meth c nL k n Q (Zw D cl A s ws) pc lv (.int (iZ i) :: .ref a :: rest) := fun H locs ls hI hl =>
  va_lald hx hb hK hI.1 q0 t0 he ht (zin hi hN) hdg (by rw [iZ_clamp hi.1 (by omega)]; exact K H locs ls hI hl)
theorem z_lastN (hx : p.tables.exec = Jvm.exec) (hb : c.code = cc) (hK : va_K D cl tys s) (q0 t0 : Nat) {cA : ClassId} {N : Nat} {g : Nat → Int64} (he : ws[q0]? = some (a, .inl (cA, N, .inr (.inl g)))) (ht : tys[t0]? = some (cA, .long)) {v : Int64} {i : Int} (hN : N ≤ 2147483647) (hi : 0 ≤ i ∧ i < (N : Int)) (hdg : decode cc pc = .ok (.lastore, 1)) (ws' : va_W) (hws : ws.set q0 (a, .inl (cA, N, .inr (.inl (vp_updL g i.toNat v)))) = ws')
    (K : Gz p l e R s m args below meth c nL k n Q (Zw D cl A s ws') (pc + 1) lv rest) : Gz p l e R s m args below meth c nL k n Q (Zw D cl A s ws) pc lv (.long v :: .int (iZ i) :: .ref a :: rest) := fun H locs ls hI hl =>
  va_last hx hb hK hI.1 hI.2.1 hI.2.2 q0 t0 he ht (zin hi hN) hdg (fun H1 locs1 hP1 hD1 hS1 => by
    rw [iZ_clamp hi.1 (by omega), hws] at hP1 hD1
    exact K H1 locs1 ls ⟨hP1, hD1, hS1⟩ hl)
end ZG3
