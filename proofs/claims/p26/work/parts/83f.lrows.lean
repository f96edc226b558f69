/-! Rows of the law's body -/
def xsI (xs : Nat → Int32) (i : Int) : Int := (xs i.toNat).toInt
theorem xsI_rng (xs : Nat → Int32) (i : Int) : -2147483648 ≤ xsI xs i ∧ xsI xs i ≤ 2147483647 := iZ_rng _
section ZLR
variable {p : Program} {l : Launch} {e : Env} {R : Room} {s : State} {m : MethodId} {args : Array Value} {below : List Frame} {meth : Method} {c : Code} {nL k n : Nat} {Q : State → Prop} {I : Heap → List Loc → Prop} {cc : ByteArray} {pc : Nat} {lv : List (Nat × Value)} {rest : List Value} {D : va_G} {cl : List vw_C} {ws : va_W} {A : Nat → Prop} {b L : Nat} {xs : Nat → Int32}
theorem z_sld (hx : p.tables.exec = Jvm.exec) (hb : c.code = cc) (hX : va_X b L xs s s.heap) (hbl : b < s.heap.size) (hbA : ¬ A b) {i : Int} (hi : 0 ≤ i ∧ i < (L : Int)) (hL : L ≤ 260) (hdg : decode cc pc = .ok (.iaload, 1))
    (K : Gz p l e R s m args below meth c nL k n Q (Zw D cl A s ws) (pc + 1) lv (.int (iZ (xsI xs i)) :: rest)) : Gz p l e R s m args below meth c nL k n Q (Zw D cl A s ws) pc lv (.int (iZ i) :: .ref b :: rest) := fun H locs ls hI hl =>
  va_sld hx hb hX hbl hbA hI.2.2 (zin hi (by omega)) hdg (by
    rw [iZ_clamp (by omega) (by omega), ← iZ_of (xs i.toNat)]
    exact K H locs ls hI hl)
theorem z_slen (hx : p.tables.exec = Jvm.exec) (hb : c.code = cc) (hX : va_X b L xs s s.heap) (hbl : b < s.heap.size) (hbA : ¬ A b) (hdg : decode cc pc = .ok (.arraylength, 1))
    (K : Gz p l e R s m args below meth c nL k n Q (Zw D cl A s ws) (pc + 1) lv (.int (iZ (L : Int)) :: rest)) : Gz p l e R s m args below meth c nL k n Q (Zw D cl A s ws) pc lv (.ref b :: rest) := fun H locs ls hI hl =>
  va_slen hx hb hX hbl hbA hI.2.2 hdg (by
    rw [show Int32.ofNat L = iZ (L : Int) from (Int32.ofInt_eq_ofNat (n := L)).symm]
    exact K H locs ls hI hl)
theorem z_iandR (hx : p.tables.exec = Jvm.exec) (hb : c.code = cc) {u v : Int32} (hdg : decode cc pc = .ok (.iand, 1))
    (K : ∀ w : Int, -2147483648 ≤ w ∧ w ≤ 2147483647 → Gz p l e R s m args below meth c nL k n Q I (pc + 1) lv (.int (iZ w) :: rest)) : Gz p l e R s m args below meth c nL k n Q I pc lv (.int v :: .int u :: rest) := fun H locs ls hI hl =>
  lv_iand hx hb hdg (by
    rw [← iZ_of (u &&& v)]
    exact K _ (iZ_rng _) H locs ls hI hl)
theorem z_lcmp0 (hx : p.tables.exec = Jvm.exec) (hb : c.code = cc) {u v : Int64} (huv : u = v) (hdg : decode cc pc = .ok (.lcmp, 1))
    (K : Gz p l e R s m args below meth c nL k n Q I (pc + 1) lv (.int (iZ 0) :: rest)) : Gz p l e R s m args below meth c nL k n Q I pc lv (.long v :: .long u :: rest) := fun H locs ls hI hl =>
  W.lcmp hx hb hdg (by
    have e : lg_cmp u v = iZ 0 := by
      subst huv
      unfold lg_cmp
      rw [if_neg (Int64.lt_irrefl (a := u)), if_pos rfl]
      rfl
    rw [e]
    exact K H locs ls hI hl)
theorem z_dstore (hx : p.tables.exec = Jvm.exec) (hb : c.code = cc) {i : Nat} {x : UInt64} (hdg : decode cc pc = .ok (.dstore i, 2)) (hn : i + 1 < nL) (lv' : List (Nat × Value)) (hl' : (i, Value.double x) :: lv.filter (fun q => !(q.1 == i) && (!(q.1 == i + 1) && !(q.1 + 1 == i && q.2.category == 2))) = lv') (K : Gz p l e R s m args below meth c nL k n Q I (pc + 2) lv' rest) : Gz p l e R s m args below meth c nL k n Q I pc lv (.double x :: rest) := fun H locs ls hI hl => lv_dstore hx hb hdg hl hn hl' (fun ls2 hl2 => K H locs ls2 hI hl2)
theorem z_dload (hx : p.tables.exec = Jvm.exec) (hb : c.code = cc) {i : Nat} {x : UInt64} (hdg : decode cc pc = .ok (.dload i, 2)) (j : Nat) (hj : lv[j]? = some (i, .double x)) (K : Gz p l e R s m args below meth c nL k n Q I (pc + 2) lv (.double x :: rest)) : Gz p l e R s m args below meth c nL k n Q I pc lv rest := fun H locs ls hI hl => lv_dload hx hb hdg (lv_at hl j hj) (K H locs ls hI hl)
theorem z_dcmp (hx : p.tables.exec = Jvm.exec) (hb : c.code = cc) {x y : UInt64} {op : CmpOp} {v : Int32} (hv : v = Op.cmpValue (FP.dcmp x y) op) (hdg : decode cc pc = .ok (.dcmp op, 1)) (K : Gz p l e R s m args below meth c nL k n Q I (pc + 1) lv (.int v :: rest)) : Gz p l e R s m args below meth c nL k n Q I pc lv (.double y :: .double x :: rest) := fun H locs ls hI hl => lv_dcmp hx hb hdg (by rw [← hv]; exact K H locs ls hI hl)
theorem z_ifq (hx : p.tables.exec = Jvm.exec) (hb : c.code = cc) {x : Int32} {off : Int} {tgt : Nat} (hdg : decode cc pc = .ok (.ifCond .eq off, 3)) (ht : (pc : Int) + off = (tgt : Int)) (kt : x = 0 → Gz p l e R s m args below meth c nL k n Q I tgt lv rest) (kf : ¬ x = 0 → Gz p l e R s m args below meth c nL k n Q I (pc + 3) lv rest) : Gz p l e R s m args below meth c nL k n Q I pc lv (.int x :: rest) := fun H locs ls hI hl => lv_if_eq hx hb hdg ht (fun h => kt h H locs ls hI hl) (fun h => kf h H locs ls hI hl)
theorem z_ifnq (hx : p.tables.exec = Jvm.exec) (hb : c.code = cc) {x : Int32} {off : Int} {tgt : Nat} (hdg : decode cc pc = .ok (.ifCond .ne off, 3)) (ht : (pc : Int) + off = (tgt : Int)) (kt : ¬ x = 0 → Gz p l e R s m args below meth c nL k n Q I tgt lv rest) (kf : x = 0 → Gz p l e R s m args below meth c nL k n Q I (pc + 3) lv rest) : Gz p l e R s m args below meth c nL k n Q I pc lv (.int x :: rest) := fun H locs ls hI hl => lv_if_ne hx hb hdg ht (fun h => kt h H locs ls hI hl) (fun h => kf h H locs ls hI hl)
end ZLR
/-! Calls over a part of the world that answer a long, a double -/
section ZL2
variable {p : Program} {l : Launch} {e : Env} {R : Room} {s : State} {m : MethodId} {args : Array Value} {below : List Frame} {meth : Method} {c : Code} {nL k n : Nat} {Q : State → Prop} {I : Heap → List Loc → Prop} {cc : ByteArray} {pc : Nat} {lv : List (Nat × Value)} {rest : List Value} {D : va_G} {cl : List vw_C} {tys : List (ClassId × FieldType)} {ws : va_W} {A : Nat → Prop} {a : Nat}
theorem z_callL {y : MethodName} {bytes : ByteArray} {maxL index nA mc ms : Nat} {ret : Option FieldType} {W1 : List Cond} {rm : Room} {Ts : List Cond} {own C : String} {b : Addr} {As : List Value} {wa wc wb : va_W} {stk : List Value} {ci : Nat} {q : vw_C} {fs : List Value} {S : Type} {post : Int64 → S → Prop} {wf : S → va_W} (F : CallFix p m c cc nL s args Ts own) (hK : va_K D cl tys s) (hA : ∀ q, s.heap.size ≤ q → A q) (hM : ∀ sz, Met l y W1 rm (zPw D cl tys wc sz (.ref b :: As)) (va_Ql post (zB D cl tys wc sz wf) (va_A wc sz)) mc ms (va_A wc sz)) (cw : CallW R s args own C index y bytes maxL ret W1 rm mc ms nA) (hws : ws = wa ++ wc ++ wb) (q0 : Nat) (he : ws[q0]? = some (b, .inr (ci, fs))) (hc : cl[ci]? = some q) (hC : q.1 = C) (hn : As.length = nA) (hstk : stk = As.reverse ++ .ref b :: rest) (hW : (rest.map fun v => v.category).sum ≤ 8) (hkn : k + mc ≤ R.cells ∧ n + ms ≤ R.slots) (hdg : decode cc pc = .ok (.invokevirtual index, 3))
    (K : ∀ (r : Int64) (u : S), post r u → Gz p l e R s m args below meth c nL (k + mc) (n + ms) Q (Zw D cl A s (wa ++ wf u ++ wb)) (pc + 3) lv (.long r :: rest)) : Gz p l e R s m args below meth c nL k n Q (Zw D cl A s ws) pc lv stk := by
  intro H locs ls hI hl
  obtain ⟨hP, hD, hS⟩ := hI
  subst hC
  have hr := va_recv hK hP hc he
  subst hws
  have hF := z_mine hD hS hA
  refine va_calll (va_runV F (hM H.size) cw ⟨zPw_blind, hr, fun U hU hW => ⟨rfl, by rw [hU], by rw [hU]; exact zP_mid hP, va_K.moved hW.alike hK, zD_mid hD (fun _ _ => trivial)⟩⟩ rfl hn hl.1 hstk (lv_room hW) hdg hkn) hS (fun q _ h => hF q h) hF (fun r u t H1 locs1 ht hvm hw hB hz hk hS1 => ?_)
  obtain ⟨hP1, hK1, hD1⟩ := hB
  rw [ht] at hP1
  obtain ⟨hP2, hD2⟩ := z_join hP hD hk hF hP1 hD1
  exact K r u hw H1 locs1 ls ⟨hP2, hD2, hS1⟩ hl
theorem z_callD {y : MethodName} {bytes : ByteArray} {maxL index nA mc ms : Nat} {ret : Option FieldType} {W1 : List Cond} {rm : Room} {Ts : List Cond} {own C : String} {b : Addr} {As : List Value} {wa wc wb : va_W} {stk : List Value} {ci : Nat} {q : vw_C} {fs : List Value} {S : Type} {post : UInt64 → S → Prop} {wf : S → va_W} (F : CallFix p m c cc nL s args Ts own) (hK : va_K D cl tys s) (hA : ∀ q, s.heap.size ≤ q → A q) (hM : ∀ sz, Met l y W1 rm (zPw D cl tys wc sz (.ref b :: As)) (va_Qd post (zB D cl tys wc sz wf) (va_A wc sz)) mc ms (va_A wc sz)) (cw : CallW R s args own C index y bytes maxL ret W1 rm mc ms nA) (hws : ws = wa ++ wc ++ wb) (q0 : Nat) (he : ws[q0]? = some (b, .inr (ci, fs))) (hc : cl[ci]? = some q) (hC : q.1 = C) (hn : As.length = nA) (hstk : stk = As.reverse ++ .ref b :: rest) (hW : (rest.map fun v => v.category).sum ≤ 8) (hkn : k + mc ≤ R.cells ∧ n + ms ≤ R.slots) (hdg : decode cc pc = .ok (.invokevirtual index, 3))
    (K : ∀ (r : UInt64) (u : S), post r u → Gz p l e R s m args below meth c nL (k + mc) (n + ms) Q (Zw D cl A s (wa ++ wf u ++ wb)) (pc + 3) lv (.double r :: rest)) : Gz p l e R s m args below meth c nL k n Q (Zw D cl A s ws) pc lv stk := by
  intro H locs ls hI hl
  obtain ⟨hP, hD, hS⟩ := hI
  subst hC
  have hr := va_recv hK hP hc he
  subst hws
  have hF := z_mine hD hS hA
  refine va_calld (va_runV F (hM H.size) cw ⟨zPw_blind, hr, fun U hU hW => ⟨rfl, by rw [hU], by rw [hU]; exact zP_mid hP, va_K.moved hW.alike hK, zD_mid hD (fun _ _ => trivial)⟩⟩ rfl hn hl.1 hstk (lv_room hW) hdg hkn) hS (fun q _ h => hF q h) hF (fun r u t H1 locs1 ht hvm hw hB hz hk hS1 => ?_)
  obtain ⟨hP1, hK1, hD1⟩ := hB
  rw [ht] at hP1
  obtain ⟨hP2, hD2⟩ := z_join hP hD hk hF hP1 hD1
  exact K r u hw H1 locs1 ls ⟨hP2, hD2, hS1⟩ hl
end ZL2
